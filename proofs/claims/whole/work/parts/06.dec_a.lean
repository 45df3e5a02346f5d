theorem dX0_init_0 : decode cX0_init 0 = .ok (.aload_n 0, 1) := by decide +kernel
theorem dX0_init_1 : decode cX0_init 1 = .ok (.invokespecial 3, 3) := by decide +kernel
theorem dX0_init_4 : decode cX0_init 4 = .ok (.aload_n 0, 1) := by decide +kernel
theorem dX0_init_5 : decode cX0_init 5 = .ok (.iconst 1, 1) := by decide +kernel
theorem dX0_init_6 : decode cX0_init 6 = .ok (.putfield 9, 3) := by decide +kernel
theorem dX0_init_9 : decode cX0_init 9 = .ok (.aload_n 0, 1) := by decide +kernel
theorem dX0_init_10 : decode cX0_init 10 = .ok (.iload_n 1, 1) := by decide +kernel
theorem dX0_init_11 : decode cX0_init 11 = .ok (.putfield 15, 3) := by decide +kernel
theorem dX0_init_14 : decode cX0_init 14 = .ok (.aload_n 0, 1) := by decide +kernel
theorem dX0_init_15 : decode cX0_init 15 = .ok (.iload_n 2, 1) := by decide +kernel
theorem dX0_init_16 : decode cX0_init 16 = .ok (.putfield 18, 3) := by decide +kernel
theorem dX0_init_19 : decode cX0_init 19 = .ok (.aload_n 0, 1) := by decide +kernel
theorem dX0_init_20 : decode cX0_init 20 = .ok (.iload_n 3, 1) := by decide +kernel
theorem dX0_init_21 : decode cX0_init 21 = .ok (.putfield 21, 3) := by decide +kernel
theorem dX0_init_24 : decode cX0_init 24 = .ok (.return_, 1) := by decide +kernel
theorem dX0_hasMember_0 : decode cX0_hasMember 0 = .ok (.aload_n 0, 1) := by decide +kernel
theorem dX0_hasMember_1 : decode cX0_hasMember 1 = .ok (.getfield 18, 3) := by decide +kernel
theorem dX0_hasMember_4 : decode cX0_hasMember 4 = .ok (.iload_n 1, 1) := by decide +kernel
theorem dX0_hasMember_5 : decode cX0_hasMember 5 = .ok (.invokestatic 24, 3) := by decide +kernel
theorem dX0_hasMember_8 : decode cX0_hasMember 8 = .ok (.ireturn, 1) := by decide +kernel
theorem dX0_noteSigned_0 : decode cX0_noteSigned 0 = .ok (.aload_n 1, 1) := by decide +kernel
theorem dX0_noteSigned_1 : decode cX0_noteSigned 1 = .ok (.invokevirtual 28, 3) := by decide +kernel
theorem dX0_noteSigned_4 : decode cX0_noteSigned 4 = .ok (.ifCond .eq 29, 3) := by decide +kernel
theorem dX0_noteSigned_7 : decode cX0_noteSigned 7 = .ok (.aload_n 0, 1) := by decide +kernel
theorem dX0_noteSigned_8 : decode cX0_noteSigned 8 = .ok (.getfield 34, 3) := by decide +kernel
theorem dX0_noteSigned_11 : decode cX0_noteSigned 11 = .ok (.ifnull 17, 3) := by decide +kernel
theorem dX0_noteSigned_14 : decode cX0_noteSigned 14 = .ok (.aload_n 1, 1) := by decide +kernel
theorem dX0_noteSigned_15 : decode cX0_noteSigned 15 = .ok (.getfield 38, 3) := by decide +kernel
theorem dX0_noteSigned_18 : decode cX0_noteSigned 18 = .ok (.aload_n 0, 1) := by decide +kernel
theorem dX0_noteSigned_19 : decode cX0_noteSigned 19 = .ok (.getfield 34, 3) := by decide +kernel
theorem dX0_noteSigned_22 : decode cX0_noteSigned 22 = .ok (.getfield 38, 3) := by decide +kernel
theorem dX0_noteSigned_25 : decode cX0_noteSigned 25 = .ok (.if_icmp .le 8, 3) := by decide +kernel
theorem dX0_noteSigned_28 : decode cX0_noteSigned 28 = .ok (.aload_n 0, 1) := by decide +kernel
theorem dX0_noteSigned_29 : decode cX0_noteSigned 29 = .ok (.aload_n 1, 1) := by decide +kernel
theorem dX0_noteSigned_30 : decode cX0_noteSigned 30 = .ok (.putfield 34, 3) := by decide +kernel
theorem dX0_noteSigned_33 : decode cX0_noteSigned 33 = .ok (.return_, 1) := by decide +kernel
theorem dX0_wouldTake_0 : decode cX0_wouldTake 0 = .ok (.aload_n 0, 1) := by decide +kernel
theorem dX0_wouldTake_1 : decode cX0_wouldTake 1 = .ok (.getfield 9, 3) := by decide +kernel
theorem dX0_wouldTake_4 : decode cX0_wouldTake 4 = .ok (.iconst 1, 1) := by decide +kernel
theorem dX0_wouldTake_5 : decode cX0_wouldTake 5 = .ok (.if_icmp .eq 32, 3) := by decide +kernel
theorem dX0_wouldTake_8 : decode cX0_wouldTake 8 = .ok (.aload_n 0, 1) := by decide +kernel
theorem dX0_wouldTake_9 : decode cX0_wouldTake 9 = .ok (.getfield 9, 3) := by decide +kernel
theorem dX0_wouldTake_12 : decode cX0_wouldTake 12 = .ok (.iconst 2, 1) := by decide +kernel
theorem dX0_wouldTake_13 : decode cX0_wouldTake 13 = .ok (.if_icmp .ne 28, 3) := by decide +kernel
theorem dX0_wouldTake_16 : decode cX0_wouldTake 16 = .ok (.aload_n 0, 1) := by decide +kernel
theorem dX0_wouldTake_17 : decode cX0_wouldTake 17 = .ok (.getfield 41, 3) := by decide +kernel
theorem dX0_wouldTake_20 : decode cX0_wouldTake 20 = .ok (.ifnull 17, 3) := by decide +kernel
theorem dX0_wouldTake_23 : decode cX0_wouldTake 23 = .ok (.aload_n 0, 1) := by decide +kernel
theorem dX0_wouldTake_24 : decode cX0_wouldTake 24 = .ok (.getfield 41, 3) := by decide +kernel
theorem dX0_wouldTake_27 : decode cX0_wouldTake 27 = .ok (.getfield 38, 3) := by decide +kernel
theorem dX0_wouldTake_30 : decode cX0_wouldTake 30 = .ok (.aload_n 1, 1) := by decide +kernel
theorem dX0_wouldTake_31 : decode cX0_wouldTake 31 = .ok (.getfield 38, 3) := by decide +kernel
theorem dX0_wouldTake_34 : decode cX0_wouldTake 34 = .ok (.if_icmp .ge 7, 3) := by decide +kernel
theorem dX0_wouldTake_37 : decode cX0_wouldTake 37 = .ok (.iconst 1, 1) := by decide +kernel
theorem dX0_wouldTake_38 : decode cX0_wouldTake 38 = .ok (.goto 4, 3) := by decide +kernel
theorem dX0_wouldTake_41 : decode cX0_wouldTake 41 = .ok (.iconst 0, 1) := by decide +kernel
theorem dX0_wouldTake_42 : decode cX0_wouldTake 42 = .ok (.ireturn, 1) := by decide +kernel
theorem dX0_heldLockAt_0 : decode cX0_heldLockAt 0 = .ok (.aload_n 0, 1) := by decide +kernel
theorem dX0_heldLockAt_1 : decode cX0_heldLockAt 1 = .ok (.getfield 41, 3) := by decide +kernel
theorem dX0_heldLockAt_4 : decode cX0_heldLockAt 4 = .ok (.ifnull 32, 3) := by decide +kernel
theorem dX0_heldLockAt_7 : decode cX0_heldLockAt 7 = .ok (.iload_n 1, 1) := by decide +kernel
theorem dX0_heldLockAt_8 : decode cX0_heldLockAt 8 = .ok (.invokestatic 44, 3) := by decide +kernel
theorem dX0_heldLockAt_11 : decode cX0_heldLockAt 11 = .ok (.ifCond .eq 25, 3) := by decide +kernel
theorem dX0_heldLockAt_14 : decode cX0_heldLockAt 14 = .ok (.aload_n 0, 1) := by decide +kernel
theorem dX0_heldLockAt_15 : decode cX0_heldLockAt 15 = .ok (.getfield 48, 3) := by decide +kernel
theorem dX0_heldLockAt_18 : decode cX0_heldLockAt 18 = .ok (.iconst 1, 1) := by decide +kernel
theorem dX0_heldLockAt_19 : decode cX0_heldLockAt 19 = .ok (.iload_n 1, 1) := by decide +kernel
theorem dX0_heldLockAt_20 : decode cX0_heldLockAt 20 = .ok (.ishl, 1) := by decide +kernel
theorem dX0_heldLockAt_21 : decode cX0_heldLockAt 21 = .ok (.iand, 1) := by decide +kernel
theorem dX0_heldLockAt_22 : decode cX0_heldLockAt 22 = .ok (.ifCond .eq 14, 3) := by decide +kernel
theorem dX0_heldLockAt_25 : decode cX0_heldLockAt 25 = .ok (.aload_n 0, 1) := by decide +kernel
theorem dX0_heldLockAt_26 : decode cX0_heldLockAt 26 = .ok (.getfield 41, 3) := by decide +kernel
theorem dX0_heldLockAt_29 : decode cX0_heldLockAt 29 = .ok (.iload_n 1, 1) := by decide +kernel
theorem dX0_heldLockAt_30 : decode cX0_heldLockAt 30 = .ok (.invokevirtual 51, 3) := by decide +kernel
theorem dX0_heldLockAt_33 : decode cX0_heldLockAt 33 = .ok (.goto 4, 3) := by decide +kernel
theorem dX0_heldLockAt_36 : decode cX0_heldLockAt 36 = .ok (.aconst_null, 1) := by decide +kernel
theorem dX0_heldLockAt_37 : decode cX0_heldLockAt 37 = .ok (.areturn, 1) := by decide +kernel
theorem dX1_init_0 : decode cX1_init 0 = .ok (.aload_n 0, 1) := by decide +kernel
theorem dX1_init_1 : decode cX1_init 1 = .ok (.invokespecial 1, 3) := by decide +kernel
theorem dX1_init_4 : decode cX1_init 4 = .ok (.aload_n 0, 1) := by decide +kernel
theorem dX1_init_5 : decode cX1_init 5 = .ok (.iload_n 1, 1) := by decide +kernel
theorem dX1_init_6 : decode cX1_init 6 = .ok (.putfield 7, 3) := by decide +kernel
theorem dX1_init_9 : decode cX1_init 9 = .ok (.aload_n 0, 1) := by decide +kernel
theorem dX1_init_10 : decode cX1_init 10 = .ok (.iload_n 2, 1) := by decide +kernel
theorem dX1_init_11 : decode cX1_init 11 = .ok (.putfield 13, 3) := by decide +kernel
theorem dX1_init_14 : decode cX1_init 14 = .ok (.aload_n 0, 1) := by decide +kernel
theorem dX1_init_15 : decode cX1_init 15 = .ok (.iload_n 3, 1) := by decide +kernel
theorem dX1_init_16 : decode cX1_init 16 = .ok (.putfield 16, 3) := by decide +kernel
theorem dX1_init_19 : decode cX1_init 19 = .ok (.aload_n 0, 1) := by decide +kernel
theorem dX1_init_20 : decode cX1_init 20 = .ok (.iload 4, 2) := by decide +kernel
theorem dX1_init_22 : decode cX1_init 22 = .ok (.putfield 19, 3) := by decide +kernel
theorem dX1_init_25 : decode cX1_init 25 = .ok (.return_, 1) := by decide +kernel
theorem dX1_after_0 : decode cX1_after 0 = .ok (.aload_n 0, 1) := by decide +kernel
theorem dX1_after_1 : decode cX1_after 1 = .ok (.getfield 19, 3) := by decide +kernel
theorem dX1_after_4 : decode cX1_after 4 = .ok (.iload_n 1, 1) := by decide +kernel
theorem dX1_after_5 : decode cX1_after 5 = .ok (.if_icmp .gt 7, 3) := by decide +kernel
theorem dX1_after_8 : decode cX1_after 8 = .ok (.aconst_null, 1) := by decide +kernel
theorem dX1_after_9 : decode cX1_after 9 = .ok (.goto 28, 3) := by decide +kernel
theorem dX1_after_12 : decode cX1_after 12 = .ok (.new 8, 3) := by decide +kernel
theorem dX1_after_15 : decode cX1_after 15 = .ok (.dup, 1) := by decide +kernel
theorem dX1_after_16 : decode cX1_after 16 = .ok (.aload_n 0, 1) := by decide +kernel
theorem dX1_after_17 : decode cX1_after 17 = .ok (.getfield 13, 3) := by decide +kernel
theorem dX1_after_20 : decode cX1_after 20 = .ok (.aload_n 0, 1) := by decide +kernel
theorem dX1_after_21 : decode cX1_after 21 = .ok (.getfield 7, 3) := by decide +kernel
theorem dX1_after_24 : decode cX1_after 24 = .ok (.aload_n 0, 1) := by decide +kernel
theorem dX1_after_25 : decode cX1_after 25 = .ok (.getfield 16, 3) := by decide +kernel
theorem dX1_after_28 : decode cX1_after 28 = .ok (.aload_n 0, 1) := by decide +kernel
theorem dX1_after_29 : decode cX1_after 29 = .ok (.getfield 19, 3) := by decide +kernel
theorem dX1_after_32 : decode cX1_after 32 = .ok (.iload_n 1, 1) := by decide +kernel
theorem dX1_after_33 : decode cX1_after 33 = .ok (.isub, 1) := by decide +kernel
theorem dX1_after_34 : decode cX1_after 34 = .ok (.invokespecial 22, 3) := by decide +kernel
theorem dX1_after_37 : decode cX1_after 37 = .ok (.areturn, 1) := by decide +kernel
theorem dX2_init_0 : decode cX2_init 0 = .ok (.aload_n 0, 1) := by decide +kernel
theorem dX2_init_1 : decode cX2_init 1 = .ok (.invokespecial 3, 3) := by decide +kernel
theorem dX2_init_4 : decode cX2_init 4 = .ok (.aload_n 0, 1) := by decide +kernel
theorem dX2_init_5 : decode cX2_init 5 = .ok (.aload_n 1, 1) := by decide +kernel
theorem dX2_init_6 : decode cX2_init 6 = .ok (.putfield 9, 3) := by decide +kernel
theorem dX2_init_9 : decode cX2_init 9 = .ok (.aload_n 0, 1) := by decide +kernel
theorem dX2_init_10 : decode cX2_init 10 = .ok (.iload_n 2, 1) := by decide +kernel
theorem dX2_init_11 : decode cX2_init 11 = .ok (.putfield 15, 3) := by decide +kernel
theorem dX2_init_14 : decode cX2_init 14 = .ok (.aload_n 0, 1) := by decide +kernel
theorem dX2_init_15 : decode cX2_init 15 = .ok (.iload_n 3, 1) := by decide +kernel
theorem dX2_init_16 : decode cX2_init 16 = .ok (.putfield 19, 3) := by decide +kernel
theorem dX2_init_19 : decode cX2_init 19 = .ok (.return_, 1) := by decide +kernel
theorem dX2_canCarry_0 : decode cX2_canCarry 0 = .ok (.aload_n 0, 1) := by decide +kernel
theorem dX2_canCarry_1 : decode cX2_canCarry 1 = .ok (.getfield 9, 3) := by decide +kernel
theorem dX2_canCarry_4 : decode cX2_canCarry 4 = .ok (.getfield 22, 3) := by decide +kernel
theorem dX2_canCarry_7 : decode cX2_canCarry 7 = .ok (.astore_n 2, 1) := by decide +kernel
theorem dX2_canCarry_8 : decode cX2_canCarry 8 = .ok (.aload_n 0, 1) := by decide +kernel
theorem dX2_canCarry_9 : decode cX2_canCarry 9 = .ok (.getfield 9, 3) := by decide +kernel
theorem dX2_canCarry_12 : decode cX2_canCarry 12 = .ok (.getfield 28, 3) := by decide +kernel
theorem dX2_canCarry_15 : decode cX2_canCarry 15 = .ok (.iconst 1, 1) := by decide +kernel
theorem dX2_canCarry_16 : decode cX2_canCarry 16 = .ok (.if_icmp .ne 34, 3) := by decide +kernel
theorem dX2_canCarry_19 : decode cX2_canCarry 19 = .ok (.aload_n 2, 1) := by decide +kernel
theorem dX2_canCarry_20 : decode cX2_canCarry 20 = .ok (.ifnull 30, 3) := by decide +kernel
theorem dX2_canCarry_23 : decode cX2_canCarry 23 = .ok (.aload_n 2, 1) := by decide +kernel
theorem dX2_canCarry_24 : decode cX2_canCarry 24 = .ok (.getfield 31, 3) := by decide +kernel
theorem dX2_canCarry_27 : decode cX2_canCarry 27 = .ok (.aload_n 0, 1) := by decide +kernel
theorem dX2_canCarry_28 : decode cX2_canCarry 28 = .ok (.getfield 15, 3) := by decide +kernel
theorem dX2_canCarry_31 : decode cX2_canCarry 31 = .ok (.invokevirtual 37, 3) := by decide +kernel
theorem dX2_canCarry_34 : decode cX2_canCarry 34 = .ok (.iload_n 1, 1) := by decide +kernel
theorem dX2_canCarry_35 : decode cX2_canCarry 35 = .ok (.if_icmp .lt 15, 3) := by decide +kernel
theorem dX2_canCarry_38 : decode cX2_canCarry 38 = .ok (.aload_n 2, 1) := by decide +kernel
theorem dX2_canCarry_39 : decode cX2_canCarry 39 = .ok (.invokevirtual 43, 3) := by decide +kernel
theorem dX2_canCarry_42 : decode cX2_canCarry 42 = .ok (.iconst (-1), 1) := by decide +kernel
theorem dX2_canCarry_43 : decode cX2_canCarry 43 = .ok (.if_icmp .eq 7, 3) := by decide +kernel
theorem dX2_canCarry_46 : decode cX2_canCarry 46 = .ok (.iconst 1, 1) := by decide +kernel
theorem dX2_canCarry_47 : decode cX2_canCarry 47 = .ok (.goto 4, 3) := by decide +kernel
theorem dX2_canCarry_50 : decode cX2_canCarry 50 = .ok (.iconst 0, 1) := by decide +kernel
theorem dX2_canCarry_51 : decode cX2_canCarry 51 = .ok (.ireturn, 1) := by decide +kernel
theorem dX3_init_0 : decode cX3_init 0 = .ok (.aload_n 0, 1) := by decide +kernel
theorem dX3_init_1 : decode cX3_init 1 = .ok (.invokespecial 1, 3) := by decide +kernel
theorem dX3_init_4 : decode cX3_init 4 = .ok (.aload_n 0, 1) := by decide +kernel
theorem dX3_init_5 : decode cX3_init 5 = .ok (.iload_n 1, 1) := by decide +kernel
theorem dX3_init_6 : decode cX3_init 6 = .ok (.putfield 7, 3) := by decide +kernel
theorem dX3_init_9 : decode cX3_init 9 = .ok (.aload_n 0, 1) := by decide +kernel
theorem dX3_init_10 : decode cX3_init 10 = .ok (.iload_n 2, 1) := by decide +kernel
theorem dX3_init_11 : decode cX3_init 11 = .ok (.putfield 13, 3) := by decide +kernel
theorem dX3_init_14 : decode cX3_init 14 = .ok (.aload_n 0, 1) := by decide +kernel
theorem dX3_init_15 : decode cX3_init 15 = .ok (.iload_n 3, 1) := by decide +kernel
theorem dX3_init_16 : decode cX3_init 16 = .ok (.putfield 16, 3) := by decide +kernel
theorem dX3_init_19 : decode cX3_init 19 = .ok (.aload_n 0, 1) := by decide +kernel
theorem dX3_init_20 : decode cX3_init 20 = .ok (.iload 4, 2) := by decide +kernel
theorem dX3_init_22 : decode cX3_init 22 = .ok (.putfield 19, 3) := by decide +kernel
theorem dX3_init_25 : decode cX3_init 25 = .ok (.aload_n 0, 1) := by decide +kernel
theorem dX3_init_26 : decode cX3_init 26 = .ok (.iload 5, 2) := by decide +kernel
theorem dX3_init_28 : decode cX3_init 28 = .ok (.putfield 22, 3) := by decide +kernel
theorem dX3_init_31 : decode cX3_init 31 = .ok (.return_, 1) := by decide +kernel
theorem dX4_init_0 : decode cX4_init 0 = .ok (.aload_n 0, 1) := by decide +kernel
theorem dX4_init_1 : decode cX4_init 1 = .ok (.invokespecial 3, 3) := by decide +kernel
theorem dX4_init_4 : decode cX4_init 4 = .ok (.aload_n 0, 1) := by decide +kernel
theorem dX4_init_5 : decode cX4_init 5 = .ok (.new 9, 3) := by decide +kernel
theorem dX4_init_8 : decode cX4_init 8 = .ok (.dup, 1) := by decide +kernel
theorem dX4_init_9 : decode cX4_init 9 = .ok (.invokespecial 11, 3) := by decide +kernel
theorem dX4_init_12 : decode cX4_init 12 = .ok (.putfield 12, 3) := by decide +kernel
theorem dX4_init_15 : decode cX4_init 15 = .ok (.aload_n 0, 1) := by decide +kernel
theorem dX4_init_16 : decode cX4_init 16 = .ok (.new 9, 3) := by decide +kernel
theorem dX4_init_19 : decode cX4_init 19 = .ok (.dup, 1) := by decide +kernel
theorem dX4_init_20 : decode cX4_init 20 = .ok (.invokespecial 11, 3) := by decide +kernel
theorem dX4_init_23 : decode cX4_init 23 = .ok (.putfield 18, 3) := by decide +kernel
theorem dX4_init_26 : decode cX4_init 26 = .ok (.aload_n 0, 1) := by decide +kernel
theorem dX4_init_27 : decode cX4_init 27 = .ok (.iconst 3, 1) := by decide +kernel
theorem dX4_init_28 : decode cX4_init 28 = .ok (.anewarray 21, 3) := by decide +kernel
theorem dX4_init_31 : decode cX4_init 31 = .ok (.putfield 23, 3) := by decide +kernel
theorem dX4_init_34 : decode cX4_init 34 = .ok (.aload_n 0, 1) := by decide +kernel
theorem dX4_init_35 : decode cX4_init 35 = .ok (.iload_n 1, 1) := by decide +kernel
theorem dX4_init_36 : decode cX4_init 36 = .ok (.putfield 27, 3) := by decide +kernel
theorem dX4_init_39 : decode cX4_init 39 = .ok (.aload_n 0, 1) := by decide +kernel
theorem dX4_init_40 : decode cX4_init 40 = .ok (.aload_n 2, 1) := by decide +kernel
theorem dX4_init_41 : decode cX4_init 41 = .ok (.putfield 31, 3) := by decide +kernel
theorem dX4_init_44 : decode cX4_init 44 = .ok (.aload_n 0, 1) := by decide +kernel
theorem dX4_init_45 : decode cX4_init 45 = .ok (.iload_n 3, 1) := by decide +kernel
theorem dX4_init_46 : decode cX4_init 46 = .ok (.putfield 35, 3) := by decide +kernel
theorem dX4_init_49 : decode cX4_init 49 = .ok (.return_, 1) := by decide +kernel
theorem dX4_copyFrom_0 : decode cX4_copyFrom 0 = .ok (.iconst 0, 1) := by decide +kernel
theorem dX4_copyFrom_1 : decode cX4_copyFrom 1 = .ok (.istore_n 2, 1) := by decide +kernel
theorem dX4_copyFrom_2 : decode cX4_copyFrom 2 = .ok (.iload_n 2, 1) := by decide +kernel
theorem dX4_copyFrom_3 : decode cX4_copyFrom 3 = .ok (.bipush 6, 2) := by decide +kernel
theorem dX4_copyFrom_5 : decode cX4_copyFrom 5 = .ok (.if_icmp .ge 25, 3) := by decide +kernel
theorem dX4_copyFrom_8 : decode cX4_copyFrom 8 = .ok (.aload_n 0, 1) := by decide +kernel
theorem dX4_copyFrom_9 : decode cX4_copyFrom 9 = .ok (.getfield 12, 3) := by decide +kernel
theorem dX4_copyFrom_12 : decode cX4_copyFrom 12 = .ok (.iload_n 2, 1) := by decide +kernel
theorem dX4_copyFrom_13 : decode cX4_copyFrom 13 = .ok (.aload_n 1, 1) := by decide +kernel
theorem dX4_copyFrom_14 : decode cX4_copyFrom 14 = .ok (.getfield 12, 3) := by decide +kernel
theorem dX4_copyFrom_17 : decode cX4_copyFrom 17 = .ok (.iload_n 2, 1) := by decide +kernel
theorem dX4_copyFrom_18 : decode cX4_copyFrom 18 = .ok (.invokevirtual 38, 3) := by decide +kernel
theorem dX4_copyFrom_21 : decode cX4_copyFrom 21 = .ok (.invokevirtual 42, 3) := by decide +kernel
theorem dX4_copyFrom_24 : decode cX4_copyFrom 24 = .ok (.iinc 2 1, 3) := by decide +kernel
theorem dX4_copyFrom_27 : decode cX4_copyFrom 27 = .ok (.goto (-25), 3) := by decide +kernel
theorem dX4_copyFrom_30 : decode cX4_copyFrom 30 = .ok (.iconst 0, 1) := by decide +kernel
theorem dX4_copyFrom_31 : decode cX4_copyFrom 31 = .ok (.istore_n 2, 1) := by decide +kernel
theorem dX4_copyFrom_32 : decode cX4_copyFrom 32 = .ok (.iload_n 2, 1) := by decide +kernel
theorem dX4_copyFrom_33 : decode cX4_copyFrom 33 = .ok (.aload_n 0, 1) := by decide +kernel
theorem dX4_copyFrom_34 : decode cX4_copyFrom 34 = .ok (.getfield 23, 3) := by decide +kernel
theorem dX4_copyFrom_37 : decode cX4_copyFrom 37 = .ok (.arraylength, 1) := by decide +kernel
theorem dX4_copyFrom_38 : decode cX4_copyFrom 38 = .ok (.if_icmp .ge 20, 3) := by decide +kernel
theorem dX4_copyFrom_41 : decode cX4_copyFrom 41 = .ok (.aload_n 0, 1) := by decide +kernel
theorem dX4_copyFrom_42 : decode cX4_copyFrom 42 = .ok (.getfield 23, 3) := by decide +kernel
theorem dX4_copyFrom_45 : decode cX4_copyFrom 45 = .ok (.iload_n 2, 1) := by decide +kernel
theorem dX4_copyFrom_46 : decode cX4_copyFrom 46 = .ok (.aload_n 1, 1) := by decide +kernel
theorem dX4_copyFrom_47 : decode cX4_copyFrom 47 = .ok (.iload_n 2, 1) := by decide +kernel
theorem dX4_copyFrom_48 : decode cX4_copyFrom 48 = .ok (.invokevirtual 46, 3) := by decide +kernel
theorem dX4_copyFrom_51 : decode cX4_copyFrom 51 = .ok (.aastore, 1) := by decide +kernel
theorem dX4_copyFrom_52 : decode cX4_copyFrom 52 = .ok (.iinc 2 1, 3) := by decide +kernel
theorem dX4_copyFrom_55 : decode cX4_copyFrom 55 = .ok (.goto (-23), 3) := by decide +kernel
theorem dX4_copyFrom_58 : decode cX4_copyFrom 58 = .ok (.aload_n 0, 1) := by decide +kernel
theorem dX4_copyFrom_59 : decode cX4_copyFrom 59 = .ok (.aload_n 1, 1) := by decide +kernel
theorem dX4_copyFrom_60 : decode cX4_copyFrom 60 = .ok (.getfield 50, 3) := by decide +kernel
theorem dX4_copyFrom_63 : decode cX4_copyFrom 63 = .ok (.putfield 50, 3) := by decide +kernel
theorem dX4_copyFrom_66 : decode cX4_copyFrom 66 = .ok (.return_, 1) := by decide +kernel
theorem dX4_hasMember_0 : decode cX4_hasMember 0 = .ok (.aload_n 0, 1) := by decide +kernel
theorem dX4_hasMember_1 : decode cX4_hasMember 1 = .ok (.getfield 31, 3) := by decide +kernel
theorem dX4_hasMember_4 : decode cX4_hasMember 4 = .ok (.iload_n 1, 1) := by decide +kernel
theorem dX4_hasMember_5 : decode cX4_hasMember 5 = .ok (.invokevirtual 54, 3) := by decide +kernel
theorem dX4_hasMember_8 : decode cX4_hasMember 8 = .ok (.ireturn, 1) := by decide +kernel
theorem dX4_isFixed_0 : decode cX4_isFixed 0 = .ok (.aload_n 0, 1) := by decide +kernel
theorem dX4_isFixed_1 : decode cX4_isFixed 1 = .ok (.getfield 31, 3) := by decide +kernel
theorem dX4_isFixed_4 : decode cX4_isFixed 4 = .ok (.getfield 60, 3) := by decide +kernel
theorem dX4_isFixed_7 : decode cX4_isFixed 7 = .ok (.iconst 3, 1) := by decide +kernel
theorem dX4_isFixed_8 : decode cX4_isFixed 8 = .ok (.if_icmp .eq 10, 3) := by decide +kernel
theorem dX4_isFixed_11 : decode cX4_isFixed 11 = .ok (.aload_n 0, 1) := by decide +kernel
theorem dX4_isFixed_12 : decode cX4_isFixed 12 = .ok (.getfield 63, 3) := by decide +kernel
theorem dX4_isFixed_15 : decode cX4_isFixed 15 = .ok (.ifCond .eq 7, 3) := by decide +kernel
theorem dX4_isFixed_18 : decode cX4_isFixed 18 = .ok (.iconst 1, 1) := by decide +kernel
theorem dX4_isFixed_19 : decode cX4_isFixed 19 = .ok (.goto 4, 3) := by decide +kernel
theorem dX4_isFixed_22 : decode cX4_isFixed 22 = .ok (.iconst 0, 1) := by decide +kernel
theorem dX4_isFixed_23 : decode cX4_isFixed 23 = .ok (.ireturn, 1) := by decide +kernel
theorem dX4_doesCount_0 : decode cX4_doesCount 0 = .ok (.aload_n 0, 1) := by decide +kernel
theorem dX4_doesCount_1 : decode cX4_doesCount 1 = .ok (.getfield 31, 3) := by decide +kernel
theorem dX4_doesCount_4 : decode cX4_doesCount 4 = .ok (.getfield 60, 3) := by decide +kernel
theorem dX4_doesCount_7 : decode cX4_doesCount 7 = .ok (.iconst 3, 1) := by decide +kernel
theorem dX4_doesCount_8 : decode cX4_doesCount 8 = .ok (.if_icmp .eq 35, 3) := by decide +kernel
theorem dX4_doesCount_11 : decode cX4_doesCount 11 = .ok (.aload_n 0, 1) := by decide +kernel
theorem dX4_doesCount_12 : decode cX4_doesCount 12 = .ok (.getfield 63, 3) := by decide +kernel
theorem dX4_doesCount_15 : decode cX4_doesCount 15 = .ok (.aload_n 0, 1) := by decide +kernel
theorem dX4_doesCount_16 : decode cX4_doesCount 16 = .ok (.getfield 31, 3) := by decide +kernel
theorem dX4_doesCount_19 : decode cX4_doesCount 19 = .ok (.getfield 66, 3) := by decide +kernel
theorem dX4_doesCount_22 : decode cX4_doesCount 22 = .ok (.if_icmp .ne 21, 3) := by decide +kernel
theorem dX4_doesCount_25 : decode cX4_doesCount 25 = .ok (.aload_n 0, 1) := by decide +kernel
theorem dX4_doesCount_26 : decode cX4_doesCount 26 = .ok (.invokevirtual 69, 3) := by decide +kernel
theorem dX4_doesCount_29 : decode cX4_doesCount 29 = .ok (.aload_n 0, 1) := by decide +kernel
theorem dX4_doesCount_30 : decode cX4_doesCount 30 = .ok (.getfield 31, 3) := by decide +kernel
theorem dX4_doesCount_33 : decode cX4_doesCount 33 = .ok (.getfield 73, 3) := by decide +kernel
theorem dX4_doesCount_36 : decode cX4_doesCount 36 = .ok (.if_icmp .ne 7, 3) := by decide +kernel
theorem dX4_doesCount_39 : decode cX4_doesCount 39 = .ok (.iconst 1, 1) := by decide +kernel
theorem dX4_doesCount_40 : decode cX4_doesCount 40 = .ok (.goto 4, 3) := by decide +kernel
theorem dX4_doesCount_43 : decode cX4_doesCount 43 = .ok (.iconst 0, 1) := by decide +kernel
theorem dX4_doesCount_44 : decode cX4_doesCount 44 = .ok (.ireturn, 1) := by decide +kernel
theorem dX4_whole_0 : decode cX4_whole 0 = .ok (.aload_n 0, 1) := by decide +kernel
theorem dX4_whole_1 : decode cX4_whole 1 = .ok (.getfield 12, 3) := by decide +kernel
theorem dX4_whole_4 : decode cX4_whole 4 = .ok (.invokevirtual 76, 3) := by decide +kernel
theorem dX4_whole_7 : decode cX4_whole 7 = .ok (.aload_n 0, 1) := by decide +kernel
theorem dX4_whole_8 : decode cX4_whole 8 = .ok (.getfield 50, 3) := by decide +kernel
theorem dX4_whole_11 : decode cX4_whole 11 = .ok (.ifnonnull 7, 3) := by decide +kernel
theorem dX4_whole_14 : decode cX4_whole 14 = .ok (.iconst 0, 1) := by decide +kernel
theorem dX4_whole_15 : decode cX4_whole 15 = .ok (.goto 10, 3) := by decide +kernel
theorem dX4_whole_18 : decode cX4_whole 18 = .ok (.aload_n 0, 1) := by decide +kernel
theorem dX4_whole_19 : decode cX4_whole 19 = .ok (.getfield 50, 3) := by decide +kernel
theorem dX4_whole_22 : decode cX4_whole 22 = .ok (.getfield 79, 3) := by decide +kernel
theorem dX4_whole_25 : decode cX4_whole 25 = .ok (.iadd, 1) := by decide +kernel
theorem dX4_whole_26 : decode cX4_whole 26 = .ok (.istore_n 1, 1) := by decide +kernel
theorem dX4_whole_27 : decode cX4_whole 27 = .ok (.aload_n 0, 1) := by decide +kernel
theorem dX4_whole_28 : decode cX4_whole 28 = .ok (.getfield 23, 3) := by decide +kernel
theorem dX4_whole_31 : decode cX4_whole 31 = .ok (.astore_n 2, 1) := by decide +kernel
theorem dX4_whole_32 : decode cX4_whole 32 = .ok (.aload_n 2, 1) := by decide +kernel
theorem dX4_whole_33 : decode cX4_whole 33 = .ok (.arraylength, 1) := by decide +kernel
theorem dX4_whole_34 : decode cX4_whole 34 = .ok (.istore_n 3, 1) := by decide +kernel
theorem dX4_whole_35 : decode cX4_whole 35 = .ok (.iconst 0, 1) := by decide +kernel
theorem dX4_whole_36 : decode cX4_whole 36 = .ok (.istore 4, 2) := by decide +kernel
theorem dX4_whole_38 : decode cX4_whole 38 = .ok (.iload 4, 2) := by decide +kernel
theorem dX4_whole_40 : decode cX4_whole 40 = .ok (.iload_n 3, 1) := by decide +kernel
theorem dX4_whole_41 : decode cX4_whole 41 = .ok (.if_icmp .ge 32, 3) := by decide +kernel
theorem dX4_whole_44 : decode cX4_whole 44 = .ok (.aload_n 2, 1) := by decide +kernel
theorem dX4_whole_45 : decode cX4_whole 45 = .ok (.iload 4, 2) := by decide +kernel
theorem dX4_whole_47 : decode cX4_whole 47 = .ok (.aaload, 1) := by decide +kernel
theorem dX4_whole_48 : decode cX4_whole 48 = .ok (.astore 5, 2) := by decide +kernel
theorem dX4_whole_50 : decode cX4_whole 50 = .ok (.iload_n 1, 1) := by decide +kernel
theorem dX4_whole_51 : decode cX4_whole 51 = .ok (.aload 5, 2) := by decide +kernel
theorem dX4_whole_53 : decode cX4_whole 53 = .ok (.ifnonnull 7, 3) := by decide +kernel
theorem dX4_whole_56 : decode cX4_whole 56 = .ok (.iconst 0, 1) := by decide +kernel
theorem dX4_whole_57 : decode cX4_whole 57 = .ok (.goto 8, 3) := by decide +kernel
theorem dX4_whole_60 : decode cX4_whole 60 = .ok (.aload 5, 2) := by decide +kernel
theorem dX4_whole_62 : decode cX4_whole 62 = .ok (.getfield 84, 3) := by decide +kernel
theorem dX4_whole_65 : decode cX4_whole 65 = .ok (.iadd, 1) := by decide +kernel
theorem dX4_whole_66 : decode cX4_whole 66 = .ok (.istore_n 1, 1) := by decide +kernel
theorem dX4_whole_67 : decode cX4_whole 67 = .ok (.iinc 4 1, 3) := by decide +kernel
theorem dX4_whole_70 : decode cX4_whole 70 = .ok (.goto (-32), 3) := by decide +kernel
theorem dX4_whole_73 : decode cX4_whole 73 = .ok (.iload_n 1, 1) := by decide +kernel
theorem dX4_whole_74 : decode cX4_whole 74 = .ok (.ireturn, 1) := by decide +kernel
theorem dX4_freeOf_0 : decode cX4_freeOf 0 = .ok (.aload_n 0, 1) := by decide +kernel
theorem dX4_freeOf_1 : decode cX4_freeOf 1 = .ok (.getfield 12, 3) := by decide +kernel
theorem dX4_freeOf_4 : decode cX4_freeOf 4 = .ok (.iload_n 1, 1) := by decide +kernel
theorem dX4_freeOf_5 : decode cX4_freeOf 5 = .ok (.invokevirtual 38, 3) := by decide +kernel
theorem dX4_freeOf_8 : decode cX4_freeOf 8 = .ok (.aload_n 0, 1) := by decide +kernel
theorem dX4_freeOf_9 : decode cX4_freeOf 9 = .ok (.getfield 18, 3) := by decide +kernel
theorem dX4_freeOf_12 : decode cX4_freeOf 12 = .ok (.iload_n 1, 1) := by decide +kernel
theorem dX4_freeOf_13 : decode cX4_freeOf 13 = .ok (.invokevirtual 38, 3) := by decide +kernel
theorem dX4_freeOf_16 : decode cX4_freeOf 16 = .ok (.isub, 1) := by decide +kernel
theorem dX4_freeOf_17 : decode cX4_freeOf 17 = .ok (.ireturn, 1) := by decide +kernel
theorem dX4_hasOut_0 : decode cX4_hasOut 0 = .ok (.aload_n 0, 1) := by decide +kernel
theorem dX4_hasOut_1 : decode cX4_hasOut 1 = .ok (.getfield 18, 3) := by decide +kernel
theorem dX4_hasOut_4 : decode cX4_hasOut 4 = .ok (.invokevirtual 76, 3) := by decide +kernel
theorem dX4_hasOut_7 : decode cX4_hasOut 7 = .ok (.ifCond .le 7, 3) := by decide +kernel
theorem dX4_hasOut_10 : decode cX4_hasOut 10 = .ok (.iconst 1, 1) := by decide +kernel
theorem dX4_hasOut_11 : decode cX4_hasOut 11 = .ok (.goto 4, 3) := by decide +kernel
theorem dX4_hasOut_14 : decode cX4_hasOut 14 = .ok (.iconst 0, 1) := by decide +kernel
theorem dX4_hasOut_15 : decode cX4_hasOut 15 = .ok (.ireturn, 1) := by decide +kernel
theorem dX4_lockAt_0 : decode cX4_lockAt 0 = .ok (.iload_n 1, 1) := by decide +kernel
theorem dX4_lockAt_1 : decode cX4_lockAt 1 = .ok (.ifCond .lt 21, 3) := by decide +kernel
theorem dX4_lockAt_4 : decode cX4_lockAt 4 = .ok (.iload_n 1, 1) := by decide +kernel
theorem dX4_lockAt_5 : decode cX4_lockAt 5 = .ok (.aload_n 0, 1) := by decide +kernel
theorem dX4_lockAt_6 : decode cX4_lockAt 6 = .ok (.getfield 23, 3) := by decide +kernel
theorem dX4_lockAt_9 : decode cX4_lockAt 9 = .ok (.arraylength, 1) := by decide +kernel
theorem dX4_lockAt_10 : decode cX4_lockAt 10 = .ok (.if_icmp .ge 12, 3) := by decide +kernel
theorem dX4_lockAt_13 : decode cX4_lockAt 13 = .ok (.aload_n 0, 1) := by decide +kernel
theorem dX4_lockAt_14 : decode cX4_lockAt 14 = .ok (.getfield 23, 3) := by decide +kernel
theorem dX4_lockAt_17 : decode cX4_lockAt 17 = .ok (.iload_n 1, 1) := by decide +kernel
theorem dX4_lockAt_18 : decode cX4_lockAt 18 = .ok (.aaload, 1) := by decide +kernel
theorem dX4_lockAt_19 : decode cX4_lockAt 19 = .ok (.goto 4, 3) := by decide +kernel
theorem dX4_lockAt_22 : decode cX4_lockAt 22 = .ok (.aconst_null, 1) := by decide +kernel
theorem dX4_lockAt_23 : decode cX4_lockAt 23 = .ok (.areturn, 1) := by decide +kernel
theorem dX4_emptyPlace_0 : decode cX4_emptyPlace 0 = .ok (.iconst 0, 1) := by decide +kernel
theorem dX4_emptyPlace_1 : decode cX4_emptyPlace 1 = .ok (.istore_n 1, 1) := by decide +kernel
theorem dX4_emptyPlace_2 : decode cX4_emptyPlace 2 = .ok (.iload_n 1, 1) := by decide +kernel
theorem dX4_emptyPlace_3 : decode cX4_emptyPlace 3 = .ok (.aload_n 0, 1) := by decide +kernel
theorem dX4_emptyPlace_4 : decode cX4_emptyPlace 4 = .ok (.getfield 23, 3) := by decide +kernel
theorem dX4_emptyPlace_7 : decode cX4_emptyPlace 7 = .ok (.arraylength, 1) := by decide +kernel
theorem dX4_emptyPlace_8 : decode cX4_emptyPlace 8 = .ok (.if_icmp .ge 20, 3) := by decide +kernel
theorem dX4_emptyPlace_11 : decode cX4_emptyPlace 11 = .ok (.aload_n 0, 1) := by decide +kernel
theorem dX4_emptyPlace_12 : decode cX4_emptyPlace 12 = .ok (.getfield 23, 3) := by decide +kernel
theorem dX4_emptyPlace_15 : decode cX4_emptyPlace 15 = .ok (.iload_n 1, 1) := by decide +kernel
theorem dX4_emptyPlace_16 : decode cX4_emptyPlace 16 = .ok (.aaload, 1) := by decide +kernel
theorem dX4_emptyPlace_17 : decode cX4_emptyPlace 17 = .ok (.ifnonnull 5, 3) := by decide +kernel
theorem dX4_emptyPlace_20 : decode cX4_emptyPlace 20 = .ok (.iload_n 1, 1) := by decide +kernel
theorem dX4_emptyPlace_21 : decode cX4_emptyPlace 21 = .ok (.ireturn, 1) := by decide +kernel
theorem dX4_emptyPlace_22 : decode cX4_emptyPlace 22 = .ok (.iinc 1 1, 3) := by decide +kernel
theorem dX4_emptyPlace_25 : decode cX4_emptyPlace 25 = .ok (.goto (-23), 3) := by decide +kernel
theorem dX4_emptyPlace_28 : decode cX4_emptyPlace 28 = .ok (.iconst (-1), 1) := by decide +kernel
theorem dX4_emptyPlace_29 : decode cX4_emptyPlace 29 = .ok (.ireturn, 1) := by decide +kernel
theorem dX4_addLock_0 : decode cX4_addLock 0 = .ok (.aload_n 0, 1) := by decide +kernel
theorem dX4_addLock_1 : decode cX4_addLock 1 = .ok (.invokevirtual 87, 3) := by decide +kernel
theorem dX4_addLock_4 : decode cX4_addLock 4 = .ok (.istore_n 2, 1) := by decide +kernel
theorem dX4_addLock_5 : decode cX4_addLock 5 = .ok (.iload_n 2, 1) := by decide +kernel
theorem dX4_addLock_6 : decode cX4_addLock 6 = .ok (.ifCond .lt 35, 3) := by decide +kernel
theorem dX4_addLock_9 : decode cX4_addLock 9 = .ok (.iload_n 2, 1) := by decide +kernel
theorem dX4_addLock_10 : decode cX4_addLock 10 = .ok (.aload_n 0, 1) := by decide +kernel
theorem dX4_addLock_11 : decode cX4_addLock 11 = .ok (.getfield 23, 3) := by decide +kernel
theorem dX4_addLock_14 : decode cX4_addLock 14 = .ok (.arraylength, 1) := by decide +kernel
theorem dX4_addLock_15 : decode cX4_addLock 15 = .ok (.if_icmp .ge 26, 3) := by decide +kernel
theorem dX4_addLock_18 : decode cX4_addLock 18 = .ok (.aload_n 0, 1) := by decide +kernel
theorem dX4_addLock_19 : decode cX4_addLock 19 = .ok (.getfield 23, 3) := by decide +kernel
theorem dX4_addLock_22 : decode cX4_addLock 22 = .ok (.iload_n 2, 1) := by decide +kernel
theorem dX4_addLock_23 : decode cX4_addLock 23 = .ok (.aload_n 1, 1) := by decide +kernel
theorem dX4_addLock_24 : decode cX4_addLock 24 = .ok (.aastore, 1) := by decide +kernel
theorem dX4_addLock_25 : decode cX4_addLock 25 = .ok (.aload_n 0, 1) := by decide +kernel
theorem dX4_addLock_26 : decode cX4_addLock 26 = .ok (.getfield 12, 3) := by decide +kernel
theorem dX4_addLock_29 : decode cX4_addLock 29 = .ok (.aload_n 1, 1) := by decide +kernel
theorem dX4_addLock_30 : decode cX4_addLock 30 = .ok (.getfield 90, 3) := by decide +kernel
theorem dX4_addLock_33 : decode cX4_addLock 33 = .ok (.aload_n 1, 1) := by decide +kernel
theorem dX4_addLock_34 : decode cX4_addLock 34 = .ok (.getfield 84, 3) := by decide +kernel
theorem dX4_addLock_37 : decode cX4_addLock 37 = .ok (.ineg, 1) := by decide +kernel
theorem dX4_addLock_38 : decode cX4_addLock 38 = .ok (.invokevirtual 93, 3) := by decide +kernel
theorem dX4_addLock_41 : decode cX4_addLock 41 = .ok (.iload_n 2, 1) := by decide +kernel
theorem dX4_addLock_42 : decode cX4_addLock 42 = .ok (.ireturn, 1) := by decide +kernel
theorem dX4_removeLock_0 : decode cX4_removeLock 0 = .ok (.iload_n 1, 1) := by decide +kernel
theorem dX4_removeLock_1 : decode cX4_removeLock 1 = .ok (.ifCond .lt 19, 3) := by decide +kernel
theorem dX4_removeLock_4 : decode cX4_removeLock 4 = .ok (.iload_n 1, 1) := by decide +kernel
theorem dX4_removeLock_5 : decode cX4_removeLock 5 = .ok (.aload_n 0, 1) := by decide +kernel
theorem dX4_removeLock_6 : decode cX4_removeLock 6 = .ok (.getfield 23, 3) := by decide +kernel
theorem dX4_removeLock_9 : decode cX4_removeLock 9 = .ok (.arraylength, 1) := by decide +kernel
theorem dX4_removeLock_10 : decode cX4_removeLock 10 = .ok (.if_icmp .ge 10, 3) := by decide +kernel
theorem dX4_removeLock_13 : decode cX4_removeLock 13 = .ok (.aload_n 0, 1) := by decide +kernel
theorem dX4_removeLock_14 : decode cX4_removeLock 14 = .ok (.getfield 23, 3) := by decide +kernel
theorem dX4_removeLock_17 : decode cX4_removeLock 17 = .ok (.iload_n 1, 1) := by decide +kernel
theorem dX4_removeLock_18 : decode cX4_removeLock 18 = .ok (.aconst_null, 1) := by decide +kernel
theorem dX4_removeLock_19 : decode cX4_removeLock 19 = .ok (.aastore, 1) := by decide +kernel
theorem dX4_removeLock_20 : decode cX4_removeLock 20 = .ok (.return_, 1) := by decide +kernel
theorem dX5_init_0 : decode cX5_init 0 = .ok (.aload_n 0, 1) := by decide +kernel
theorem dX5_init_1 : decode cX5_init 1 = .ok (.invokespecial 3, 3) := by decide +kernel
theorem dX5_init_4 : decode cX5_init 4 = .ok (.aload_n 0, 1) := by decide +kernel
theorem dX5_init_5 : decode cX5_init 5 = .ok (.bipush 6, 2) := by decide +kernel
theorem dX5_init_7 : decode cX5_init 7 = .ok (.newarray .int, 2) := by decide +kernel
theorem dX5_init_9 : decode cX5_init 9 = .ok (.putfield 9, 3) := by decide +kernel
theorem dX5_init_12 : decode cX5_init 12 = .ok (.return_, 1) := by decide +kernel
theorem dX5_get_0 : decode cX5_get 0 = .ok (.iload_n 1, 1) := by decide +kernel
theorem dX5_get_1 : decode cX5_get 1 = .ok (.ifCond .lt 21, 3) := by decide +kernel
theorem dX5_get_4 : decode cX5_get 4 = .ok (.iload_n 1, 1) := by decide +kernel
theorem dX5_get_5 : decode cX5_get 5 = .ok (.aload_n 0, 1) := by decide +kernel
theorem dX5_get_6 : decode cX5_get 6 = .ok (.getfield 9, 3) := by decide +kernel
theorem dX5_get_9 : decode cX5_get 9 = .ok (.arraylength, 1) := by decide +kernel
theorem dX5_get_10 : decode cX5_get 10 = .ok (.if_icmp .ge 12, 3) := by decide +kernel
theorem dX5_get_13 : decode cX5_get 13 = .ok (.aload_n 0, 1) := by decide +kernel
theorem dX5_get_14 : decode cX5_get 14 = .ok (.getfield 9, 3) := by decide +kernel
theorem dX5_get_17 : decode cX5_get 17 = .ok (.iload_n 1, 1) := by decide +kernel
theorem dX5_get_18 : decode cX5_get 18 = .ok (.iaload, 1) := by decide +kernel
theorem dX5_get_19 : decode cX5_get 19 = .ok (.goto 4, 3) := by decide +kernel
theorem dX5_get_22 : decode cX5_get 22 = .ok (.iconst 0, 1) := by decide +kernel
theorem dX5_get_23 : decode cX5_get 23 = .ok (.ireturn, 1) := by decide +kernel
theorem dX5_put_0 : decode cX5_put 0 = .ok (.iload_n 1, 1) := by decide +kernel
theorem dX5_put_1 : decode cX5_put 1 = .ok (.ifCond .lt 19, 3) := by decide +kernel
theorem dX5_put_4 : decode cX5_put 4 = .ok (.iload_n 1, 1) := by decide +kernel
theorem dX5_put_5 : decode cX5_put 5 = .ok (.aload_n 0, 1) := by decide +kernel
theorem dX5_put_6 : decode cX5_put 6 = .ok (.getfield 9, 3) := by decide +kernel
theorem dX5_put_9 : decode cX5_put 9 = .ok (.arraylength, 1) := by decide +kernel
theorem dX5_put_10 : decode cX5_put 10 = .ok (.if_icmp .ge 10, 3) := by decide +kernel
theorem dX5_put_13 : decode cX5_put 13 = .ok (.aload_n 0, 1) := by decide +kernel
theorem dX5_put_14 : decode cX5_put 14 = .ok (.getfield 9, 3) := by decide +kernel
theorem dX5_put_17 : decode cX5_put 17 = .ok (.iload_n 1, 1) := by decide +kernel
theorem dX5_put_18 : decode cX5_put 18 = .ok (.iload_n 2, 1) := by decide +kernel
theorem dX5_put_19 : decode cX5_put 19 = .ok (.iastore, 1) := by decide +kernel
theorem dX5_put_20 : decode cX5_put 20 = .ok (.return_, 1) := by decide +kernel
theorem dX5_add_0 : decode cX5_add 0 = .ok (.iload_n 1, 1) := by decide +kernel
theorem dX5_add_1 : decode cX5_add 1 = .ok (.ifCond .lt 22, 3) := by decide +kernel
theorem dX5_add_4 : decode cX5_add 4 = .ok (.iload_n 1, 1) := by decide +kernel
theorem dX5_add_5 : decode cX5_add 5 = .ok (.aload_n 0, 1) := by decide +kernel
theorem dX5_add_6 : decode cX5_add 6 = .ok (.getfield 9, 3) := by decide +kernel
theorem dX5_add_9 : decode cX5_add 9 = .ok (.arraylength, 1) := by decide +kernel
theorem dX5_add_10 : decode cX5_add 10 = .ok (.if_icmp .ge 13, 3) := by decide +kernel
theorem dX5_add_13 : decode cX5_add 13 = .ok (.aload_n 0, 1) := by decide +kernel
theorem dX5_add_14 : decode cX5_add 14 = .ok (.getfield 9, 3) := by decide +kernel
theorem dX5_add_17 : decode cX5_add 17 = .ok (.iload_n 1, 1) := by decide +kernel
theorem dX5_add_18 : decode cX5_add 18 = .ok (.dup2, 1) := by decide +kernel
theorem dX5_add_19 : decode cX5_add 19 = .ok (.iaload, 1) := by decide +kernel
theorem dX5_add_20 : decode cX5_add 20 = .ok (.iload_n 2, 1) := by decide +kernel
theorem dX5_add_21 : decode cX5_add 21 = .ok (.iadd, 1) := by decide +kernel
theorem dX5_add_22 : decode cX5_add 22 = .ok (.iastore, 1) := by decide +kernel
theorem dX5_add_23 : decode cX5_add 23 = .ok (.return_, 1) := by decide +kernel
theorem dX5_total_0 : decode cX5_total 0 = .ok (.iconst 0, 1) := by decide +kernel
theorem dX5_total_1 : decode cX5_total 1 = .ok (.istore_n 1, 1) := by decide +kernel
theorem dX5_total_2 : decode cX5_total 2 = .ok (.aload_n 0, 1) := by decide +kernel
theorem dX5_total_3 : decode cX5_total 3 = .ok (.getfield 9, 3) := by decide +kernel
theorem dX5_total_6 : decode cX5_total 6 = .ok (.astore_n 2, 1) := by decide +kernel
theorem dX5_total_7 : decode cX5_total 7 = .ok (.aload_n 2, 1) := by decide +kernel
theorem dX5_total_8 : decode cX5_total 8 = .ok (.arraylength, 1) := by decide +kernel
theorem dX5_total_9 : decode cX5_total 9 = .ok (.istore_n 3, 1) := by decide +kernel
theorem dX5_total_10 : decode cX5_total 10 = .ok (.iconst 0, 1) := by decide +kernel
theorem dX5_total_11 : decode cX5_total 11 = .ok (.istore 4, 2) := by decide +kernel
theorem dX5_total_13 : decode cX5_total 13 = .ok (.iload 4, 2) := by decide +kernel
theorem dX5_total_15 : decode cX5_total 15 = .ok (.iload_n 3, 1) := by decide +kernel
theorem dX5_total_16 : decode cX5_total 16 = .ok (.if_icmp .ge 20, 3) := by decide +kernel
theorem dX5_total_19 : decode cX5_total 19 = .ok (.aload_n 2, 1) := by decide +kernel
theorem dX5_total_20 : decode cX5_total 20 = .ok (.iload 4, 2) := by decide +kernel
theorem dX5_total_22 : decode cX5_total 22 = .ok (.iaload, 1) := by decide +kernel
theorem dX5_total_23 : decode cX5_total 23 = .ok (.istore 5, 2) := by decide +kernel
theorem dX5_total_25 : decode cX5_total 25 = .ok (.iload_n 1, 1) := by decide +kernel
theorem dX5_total_26 : decode cX5_total 26 = .ok (.iload 5, 2) := by decide +kernel
theorem dX5_total_28 : decode cX5_total 28 = .ok (.iadd, 1) := by decide +kernel
theorem dX5_total_29 : decode cX5_total 29 = .ok (.istore_n 1, 1) := by decide +kernel
theorem dX5_total_30 : decode cX5_total 30 = .ok (.iinc 4 1, 3) := by decide +kernel
theorem dX5_total_33 : decode cX5_total 33 = .ok (.goto (-20), 3) := by decide +kernel
theorem dX5_total_36 : decode cX5_total 36 = .ok (.iload_n 1, 1) := by decide +kernel
theorem dX5_total_37 : decode cX5_total 37 = .ok (.ireturn, 1) := by decide +kernel
theorem dJ6_bitCount_0f7a4_0 : decode cJ6_bitCount_0f7a4 0 = .ok (.iload_n 0, 1) := by decide +kernel
theorem dJ6_bitCount_0f7a4_1 : decode cJ6_bitCount_0f7a4 1 = .ok (.iload_n 0, 1) := by decide +kernel
theorem dJ6_bitCount_0f7a4_2 : decode cJ6_bitCount_0f7a4 2 = .ok (.iconst 1, 1) := by decide +kernel
theorem dJ6_bitCount_0f7a4_3 : decode cJ6_bitCount_0f7a4 3 = .ok (.iushr, 1) := by decide +kernel
theorem dJ6_bitCount_0f7a4_4 : decode cJ6_bitCount_0f7a4 4 = .ok (.ldc_w 265, 3) := by decide +kernel
theorem dJ6_bitCount_0f7a4_7 : decode cJ6_bitCount_0f7a4 7 = .ok (.iand, 1) := by decide +kernel
theorem dJ6_bitCount_0f7a4_8 : decode cJ6_bitCount_0f7a4 8 = .ok (.isub, 1) := by decide +kernel
theorem dJ6_bitCount_0f7a4_9 : decode cJ6_bitCount_0f7a4 9 = .ok (.istore_n 0, 1) := by decide +kernel
theorem dJ6_bitCount_0f7a4_10 : decode cJ6_bitCount_0f7a4 10 = .ok (.iload_n 0, 1) := by decide +kernel
theorem dJ6_bitCount_0f7a4_11 : decode cJ6_bitCount_0f7a4 11 = .ok (.ldc_w 266, 3) := by decide +kernel
theorem dJ6_bitCount_0f7a4_14 : decode cJ6_bitCount_0f7a4 14 = .ok (.iand, 1) := by decide +kernel
theorem dJ6_bitCount_0f7a4_15 : decode cJ6_bitCount_0f7a4 15 = .ok (.iload_n 0, 1) := by decide +kernel
theorem dJ6_bitCount_0f7a4_16 : decode cJ6_bitCount_0f7a4 16 = .ok (.iconst 2, 1) := by decide +kernel
theorem dJ6_bitCount_0f7a4_17 : decode cJ6_bitCount_0f7a4 17 = .ok (.iushr, 1) := by decide +kernel
theorem dJ6_bitCount_0f7a4_18 : decode cJ6_bitCount_0f7a4 18 = .ok (.ldc_w 266, 3) := by decide +kernel
theorem dJ6_bitCount_0f7a4_21 : decode cJ6_bitCount_0f7a4 21 = .ok (.iand, 1) := by decide +kernel
theorem dJ6_bitCount_0f7a4_22 : decode cJ6_bitCount_0f7a4 22 = .ok (.iadd, 1) := by decide +kernel
theorem dJ6_bitCount_0f7a4_23 : decode cJ6_bitCount_0f7a4 23 = .ok (.istore_n 0, 1) := by decide +kernel
theorem dJ6_bitCount_0f7a4_24 : decode cJ6_bitCount_0f7a4 24 = .ok (.iload_n 0, 1) := by decide +kernel
theorem dJ6_bitCount_0f7a4_25 : decode cJ6_bitCount_0f7a4 25 = .ok (.iload_n 0, 1) := by decide +kernel
theorem dJ6_bitCount_0f7a4_26 : decode cJ6_bitCount_0f7a4 26 = .ok (.iconst 4, 1) := by decide +kernel
theorem dJ6_bitCount_0f7a4_27 : decode cJ6_bitCount_0f7a4 27 = .ok (.iushr, 1) := by decide +kernel
theorem dJ6_bitCount_0f7a4_28 : decode cJ6_bitCount_0f7a4 28 = .ok (.iadd, 1) := by decide +kernel
theorem dJ6_bitCount_0f7a4_29 : decode cJ6_bitCount_0f7a4 29 = .ok (.ldc_w 267, 3) := by decide +kernel
theorem dJ6_bitCount_0f7a4_32 : decode cJ6_bitCount_0f7a4 32 = .ok (.iand, 1) := by decide +kernel
theorem dJ6_bitCount_0f7a4_33 : decode cJ6_bitCount_0f7a4 33 = .ok (.istore_n 0, 1) := by decide +kernel
theorem dJ6_bitCount_0f7a4_34 : decode cJ6_bitCount_0f7a4 34 = .ok (.iload_n 0, 1) := by decide +kernel
theorem dJ6_bitCount_0f7a4_35 : decode cJ6_bitCount_0f7a4 35 = .ok (.iload_n 0, 1) := by decide +kernel
theorem dJ6_bitCount_0f7a4_36 : decode cJ6_bitCount_0f7a4 36 = .ok (.bipush 8, 2) := by decide +kernel
theorem dJ6_bitCount_0f7a4_38 : decode cJ6_bitCount_0f7a4 38 = .ok (.iushr, 1) := by decide +kernel
theorem dJ6_bitCount_0f7a4_39 : decode cJ6_bitCount_0f7a4 39 = .ok (.iadd, 1) := by decide +kernel
theorem dJ6_bitCount_0f7a4_40 : decode cJ6_bitCount_0f7a4 40 = .ok (.istore_n 0, 1) := by decide +kernel
theorem dJ6_bitCount_0f7a4_41 : decode cJ6_bitCount_0f7a4 41 = .ok (.iload_n 0, 1) := by decide +kernel
theorem dJ6_bitCount_0f7a4_42 : decode cJ6_bitCount_0f7a4 42 = .ok (.iload_n 0, 1) := by decide +kernel
theorem dJ6_bitCount_0f7a4_43 : decode cJ6_bitCount_0f7a4 43 = .ok (.bipush 16, 2) := by decide +kernel
theorem dJ6_bitCount_0f7a4_45 : decode cJ6_bitCount_0f7a4 45 = .ok (.iushr, 1) := by decide +kernel
theorem dJ6_bitCount_0f7a4_46 : decode cJ6_bitCount_0f7a4 46 = .ok (.iadd, 1) := by decide +kernel
theorem dJ6_bitCount_0f7a4_47 : decode cJ6_bitCount_0f7a4 47 = .ok (.istore_n 0, 1) := by decide +kernel
theorem dJ6_bitCount_0f7a4_48 : decode cJ6_bitCount_0f7a4 48 = .ok (.iload_n 0, 1) := by decide +kernel
theorem dJ6_bitCount_0f7a4_49 : decode cJ6_bitCount_0f7a4 49 = .ok (.bipush 63, 2) := by decide +kernel
theorem dJ6_bitCount_0f7a4_51 : decode cJ6_bitCount_0f7a4 51 = .ok (.iand, 1) := by decide +kernel
theorem dJ6_bitCount_0f7a4_52 : decode cJ6_bitCount_0f7a4 52 = .ok (.ireturn, 1) := by decide +kernel
