/-! The class, instruction by instruction. -/
theorem dX0_init_0 : decode cX0_init 0 = .ok (.aload_n 0, 1) := by decide +kernel
theorem dX0_init_1 : decode cX0_init 1 = .ok (.invokespecial 1, 3) := by decide +kernel
theorem dX0_init_4 : decode cX0_init 4 = .ok (.return_, 1) := by decide +kernel
theorem dX1_init_0 : decode cX1_init 0 = .ok (.aload_n 0, 1) := by decide +kernel
theorem dX1_init_1 : decode cX1_init 1 = .ok (.invokespecial 3, 3) := by decide +kernel
theorem dX1_init_4 : decode cX1_init 4 = .ok (.aload_n 0, 1) := by decide +kernel
theorem dX1_init_5 : decode cX1_init 5 = .ok (.iconst (-1), 1) := by decide +kernel
theorem dX1_init_6 : decode cX1_init 6 = .ok (.putfield 9, 3) := by decide +kernel
theorem dX1_init_9 : decode cX1_init 9 = .ok (.aload_n 0, 1) := by decide +kernel
theorem dX1_init_10 : decode cX1_init 10 = .ok (.iconst (-1), 1) := by decide +kernel
theorem dX1_init_11 : decode cX1_init 11 = .ok (.putfield 15, 3) := by decide +kernel
theorem dX1_init_14 : decode cX1_init 14 = .ok (.aload_n 0, 1) := by decide +kernel
theorem dX1_init_15 : decode cX1_init 15 = .ok (.bipush 8, 2) := by decide +kernel
theorem dX1_init_17 : decode cX1_init 17 = .ok (.newarray .int, 2) := by decide +kernel
theorem dX1_init_19 : decode cX1_init 19 = .ok (.putfield 18, 3) := by decide +kernel
theorem dX1_init_22 : decode cX1_init 22 = .ok (.aload_n 0, 1) := by decide +kernel
theorem dX1_init_23 : decode cX1_init 23 = .ok (.bipush 10, 2) := by decide +kernel
theorem dX1_init_25 : decode cX1_init 25 = .ok (.newarray .long, 2) := by decide +kernel
theorem dX1_init_27 : decode cX1_init 27 = .ok (.putfield 22, 3) := by decide +kernel
theorem dX1_init_30 : decode cX1_init 30 = .ok (.aload_n 0, 1) := by decide +kernel
theorem dX1_init_31 : decode cX1_init 31 = .ok (.ldc2_w 26, 3) := by decide +kernel
theorem dX1_init_34 : decode cX1_init 34 = .ok (.putfield 28, 3) := by decide +kernel
theorem dX1_init_37 : decode cX1_init 37 = .ok (.aload_n 0, 1) := by decide +kernel
theorem dX1_init_38 : decode cX1_init 38 = .ok (.iconst 0, 1) := by decide +kernel
theorem dX1_init_39 : decode cX1_init 39 = .ok (.putfield 32, 3) := by decide +kernel
theorem dX1_init_42 : decode cX1_init 42 = .ok (.aload_n 0, 1) := by decide +kernel
theorem dX1_init_43 : decode cX1_init 43 = .ok (.iload_n 1, 1) := by decide +kernel
theorem dX1_init_44 : decode cX1_init 44 = .ok (.putfield 35, 3) := by decide +kernel
theorem dX1_init_47 : decode cX1_init 47 = .ok (.aload_n 0, 1) := by decide +kernel
theorem dX1_init_48 : decode cX1_init 48 = .ok (.getfield 18, 3) := by decide +kernel
theorem dX1_init_51 : decode cX1_init 51 = .ok (.iconst (-1), 1) := by decide +kernel
theorem dX1_init_52 : decode cX1_init 52 = .ok (.invokestatic 38, 3) := by decide +kernel
theorem dX1_init_55 : decode cX1_init 55 = .ok (.aload_n 0, 1) := by decide +kernel
theorem dX1_init_56 : decode cX1_init 56 = .ok (.getfield 22, 3) := by decide +kernel
theorem dX1_init_59 : decode cX1_init 59 = .ok (.ldc2_w 44, 3) := by decide +kernel
theorem dX1_init_62 : decode cX1_init 62 = .ok (.invokestatic 46, 3) := by decide +kernel
theorem dX1_init_65 : decode cX1_init 65 = .ok (.return_, 1) := by decide +kernel
theorem dX1_isMember_0 : decode cX1_isMember 0 = .ok (.aload_n 0, 1) := by decide +kernel
theorem dX1_isMember_1 : decode cX1_isMember 1 = .ok (.getfield 9, 3) := by decide +kernel
theorem dX1_isMember_4 : decode cX1_isMember 4 = .ok (.iconst (-1), 1) := by decide +kernel
theorem dX1_isMember_5 : decode cX1_isMember 5 = .ok (.if_icmp .eq 7, 3) := by decide +kernel
theorem dX1_isMember_8 : decode cX1_isMember 8 = .ok (.iconst 1, 1) := by decide +kernel
theorem dX1_isMember_9 : decode cX1_isMember 9 = .ok (.goto 4, 3) := by decide +kernel
theorem dX1_isMember_12 : decode cX1_isMember 12 = .ok (.iconst 0, 1) := by decide +kernel
theorem dX1_isMember_13 : decode cX1_isMember 13 = .ok (.ireturn, 1) := by decide +kernel
theorem dX2_init_0 : decode cX2_init 0 = .ok (.aload_n 0, 1) := by decide +kernel
theorem dX2_init_1 : decode cX2_init 1 = .ok (.invokespecial 3, 3) := by decide +kernel
theorem dX2_init_4 : decode cX2_init 4 = .ok (.aload_n 0, 1) := by decide +kernel
theorem dX2_init_5 : decode cX2_init 5 = .ok (.bipush 21, 2) := by decide +kernel
theorem dX2_init_7 : decode cX2_init 7 = .ok (.anewarray 9, 3) := by decide +kernel
theorem dX2_init_10 : decode cX2_init 10 = .ok (.putfield 11, 3) := by decide +kernel
theorem dX2_init_13 : decode cX2_init 13 = .ok (.aload_n 0, 1) := by decide +kernel
theorem dX2_init_14 : decode cX2_init 14 = .ok (.iconst 0, 1) := by decide +kernel
theorem dX2_init_15 : decode cX2_init 15 = .ok (.putfield 17, 3) := by decide +kernel
theorem dX2_init_18 : decode cX2_init 18 = .ok (.iconst 0, 1) := by decide +kernel
theorem dX2_init_19 : decode cX2_init 19 = .ok (.istore_n 1, 1) := by decide +kernel
theorem dX2_init_20 : decode cX2_init 20 = .ok (.iload_n 1, 1) := by decide +kernel
theorem dX2_init_21 : decode cX2_init 21 = .ok (.bipush 20, 2) := by decide +kernel
theorem dX2_init_23 : decode cX2_init 23 = .ok (.if_icmp .gt 22, 3) := by decide +kernel
theorem dX2_init_26 : decode cX2_init 26 = .ok (.aload_n 0, 1) := by decide +kernel
theorem dX2_init_27 : decode cX2_init 27 = .ok (.getfield 11, 3) := by decide +kernel
theorem dX2_init_30 : decode cX2_init 30 = .ok (.iload_n 1, 1) := by decide +kernel
theorem dX2_init_31 : decode cX2_init 31 = .ok (.new 9, 3) := by decide +kernel
theorem dX2_init_34 : decode cX2_init 34 = .ok (.dup, 1) := by decide +kernel
theorem dX2_init_35 : decode cX2_init 35 = .ok (.invokespecial 21, 3) := by decide +kernel
theorem dX2_init_38 : decode cX2_init 38 = .ok (.aastore, 1) := by decide +kernel
theorem dX2_init_39 : decode cX2_init 39 = .ok (.iinc 1 1, 3) := by decide +kernel
theorem dX2_init_42 : decode cX2_init 42 = .ok (.goto (-22), 3) := by decide +kernel
theorem dX2_init_45 : decode cX2_init 45 = .ok (.return_, 1) := by decide +kernel
theorem dX2_isFull_0 : decode cX2_isFull 0 = .ok (.aload_n 0, 1) := by decide +kernel
theorem dX2_isFull_1 : decode cX2_isFull 1 = .ok (.getfield 17, 3) := by decide +kernel
theorem dX2_isFull_4 : decode cX2_isFull 4 = .ok (.bipush 20, 2) := by decide +kernel
theorem dX2_isFull_6 : decode cX2_isFull 6 = .ok (.if_icmp .lt 7, 3) := by decide +kernel
theorem dX2_isFull_9 : decode cX2_isFull 9 = .ok (.iconst 1, 1) := by decide +kernel
theorem dX2_isFull_10 : decode cX2_isFull 10 = .ok (.goto 4, 3) := by decide +kernel
theorem dX2_isFull_13 : decode cX2_isFull 13 = .ok (.iconst 0, 1) := by decide +kernel
theorem dX2_isFull_14 : decode cX2_isFull 14 = .ok (.ireturn, 1) := by decide +kernel
theorem dX2_at_0 : decode cX2_at 0 = .ok (.iload_n 1, 1) := by decide +kernel
theorem dX2_at_1 : decode cX2_at 1 = .ok (.ifCond .lt 20, 3) := by decide +kernel
theorem dX2_at_4 : decode cX2_at 4 = .ok (.iload_n 1, 1) := by decide +kernel
theorem dX2_at_5 : decode cX2_at 5 = .ok (.aload_n 0, 1) := by decide +kernel
theorem dX2_at_6 : decode cX2_at 6 = .ok (.getfield 17, 3) := by decide +kernel
theorem dX2_at_9 : decode cX2_at 9 = .ok (.if_icmp .ge 12, 3) := by decide +kernel
theorem dX2_at_12 : decode cX2_at 12 = .ok (.aload_n 0, 1) := by decide +kernel
theorem dX2_at_13 : decode cX2_at 13 = .ok (.getfield 11, 3) := by decide +kernel
theorem dX2_at_16 : decode cX2_at 16 = .ok (.iload_n 1, 1) := by decide +kernel
theorem dX2_at_17 : decode cX2_at 17 = .ok (.aaload, 1) := by decide +kernel
theorem dX2_at_18 : decode cX2_at 18 = .ok (.goto 4, 3) := by decide +kernel
theorem dX2_at_21 : decode cX2_at 21 = .ok (.aconst_null, 1) := by decide +kernel
theorem dX2_at_22 : decode cX2_at 22 = .ok (.areturn, 1) := by decide +kernel
theorem dX2_takeOut_0 : decode cX2_takeOut 0 = .ok (.aload_n 0, 1) := by decide +kernel
theorem dX2_takeOut_1 : decode cX2_takeOut 1 = .ok (.iload_n 1, 1) := by decide +kernel
theorem dX2_takeOut_2 : decode cX2_takeOut 2 = .ok (.invokevirtual 22, 3) := by decide +kernel
theorem dX2_takeOut_5 : decode cX2_takeOut 5 = .ok (.astore_n 2, 1) := by decide +kernel
theorem dX2_takeOut_6 : decode cX2_takeOut 6 = .ok (.aload_n 2, 1) := by decide +kernel
theorem dX2_takeOut_7 : decode cX2_takeOut 7 = .ok (.ifnonnull 5, 3) := by decide +kernel
theorem dX2_takeOut_10 : decode cX2_takeOut 10 = .ok (.aconst_null, 1) := by decide +kernel
theorem dX2_takeOut_11 : decode cX2_takeOut 11 = .ok (.areturn, 1) := by decide +kernel
theorem dX2_takeOut_12 : decode cX2_takeOut 12 = .ok (.iload_n 1, 1) := by decide +kernel
theorem dX2_takeOut_13 : decode cX2_takeOut 13 = .ok (.istore_n 3, 1) := by decide +kernel
theorem dX2_takeOut_14 : decode cX2_takeOut 14 = .ok (.iload_n 3, 1) := by decide +kernel
theorem dX2_takeOut_15 : decode cX2_takeOut 15 = .ok (.bipush 20, 2) := by decide +kernel
theorem dX2_takeOut_17 : decode cX2_takeOut 17 = .ok (.if_icmp .ge 23, 3) := by decide +kernel
theorem dX2_takeOut_20 : decode cX2_takeOut 20 = .ok (.aload_n 0, 1) := by decide +kernel
theorem dX2_takeOut_21 : decode cX2_takeOut 21 = .ok (.getfield 11, 3) := by decide +kernel
theorem dX2_takeOut_24 : decode cX2_takeOut 24 = .ok (.iload_n 3, 1) := by decide +kernel
theorem dX2_takeOut_25 : decode cX2_takeOut 25 = .ok (.aload_n 0, 1) := by decide +kernel
theorem dX2_takeOut_26 : decode cX2_takeOut 26 = .ok (.getfield 11, 3) := by decide +kernel
theorem dX2_takeOut_29 : decode cX2_takeOut 29 = .ok (.iload_n 3, 1) := by decide +kernel
theorem dX2_takeOut_30 : decode cX2_takeOut 30 = .ok (.iconst 1, 1) := by decide +kernel
theorem dX2_takeOut_31 : decode cX2_takeOut 31 = .ok (.iadd, 1) := by decide +kernel
theorem dX2_takeOut_32 : decode cX2_takeOut 32 = .ok (.aaload, 1) := by decide +kernel
theorem dX2_takeOut_33 : decode cX2_takeOut 33 = .ok (.aastore, 1) := by decide +kernel
theorem dX2_takeOut_34 : decode cX2_takeOut 34 = .ok (.iinc 3 1, 3) := by decide +kernel
theorem dX2_takeOut_37 : decode cX2_takeOut 37 = .ok (.goto (-23), 3) := by decide +kernel
theorem dX2_takeOut_40 : decode cX2_takeOut 40 = .ok (.aload_n 0, 1) := by decide +kernel
theorem dX2_takeOut_41 : decode cX2_takeOut 41 = .ok (.getfield 11, 3) := by decide +kernel
theorem dX2_takeOut_44 : decode cX2_takeOut 44 = .ok (.bipush 20, 2) := by decide +kernel
theorem dX2_takeOut_46 : decode cX2_takeOut 46 = .ok (.aload_n 2, 1) := by decide +kernel
theorem dX2_takeOut_47 : decode cX2_takeOut 47 = .ok (.aastore, 1) := by decide +kernel
theorem dX2_takeOut_48 : decode cX2_takeOut 48 = .ok (.aload_n 0, 1) := by decide +kernel
theorem dX2_takeOut_49 : decode cX2_takeOut 49 = .ok (.dup, 1) := by decide +kernel
theorem dX2_takeOut_50 : decode cX2_takeOut 50 = .ok (.getfield 17, 3) := by decide +kernel
theorem dX2_takeOut_53 : decode cX2_takeOut 53 = .ok (.iconst 1, 1) := by decide +kernel
theorem dX2_takeOut_54 : decode cX2_takeOut 54 = .ok (.isub, 1) := by decide +kernel
theorem dX2_takeOut_55 : decode cX2_takeOut 55 = .ok (.putfield 17, 3) := by decide +kernel
theorem dX2_takeOut_58 : decode cX2_takeOut 58 = .ok (.aload_n 2, 1) := by decide +kernel
theorem dX2_takeOut_59 : decode cX2_takeOut 59 = .ok (.areturn, 1) := by decide +kernel
theorem dX2_send_0 : decode cX2_send 0 = .ok (.aload_n 0, 1) := by decide +kernel
theorem dX2_send_1 : decode cX2_send 1 = .ok (.getfield 11, 3) := by decide +kernel
theorem dX2_send_4 : decode cX2_send 4 = .ok (.aload_n 0, 1) := by decide +kernel
theorem dX2_send_5 : decode cX2_send 5 = .ok (.getfield 17, 3) := by decide +kernel
theorem dX2_send_8 : decode cX2_send 8 = .ok (.aaload, 1) := by decide +kernel
theorem dX2_send_9 : decode cX2_send 9 = .ok (.astore_n 3, 1) := by decide +kernel
theorem dX2_send_10 : decode cX2_send 10 = .ok (.aload_n 0, 1) := by decide +kernel
theorem dX2_send_11 : decode cX2_send 11 = .ok (.getfield 17, 3) := by decide +kernel
theorem dX2_send_14 : decode cX2_send 14 = .ok (.bipush 20, 2) := by decide +kernel
theorem dX2_send_16 : decode cX2_send 16 = .ok (.if_icmp .ge 13, 3) := by decide +kernel
theorem dX2_send_19 : decode cX2_send 19 = .ok (.aload_n 0, 1) := by decide +kernel
theorem dX2_send_20 : decode cX2_send 20 = .ok (.dup, 1) := by decide +kernel
theorem dX2_send_21 : decode cX2_send 21 = .ok (.getfield 17, 3) := by decide +kernel
theorem dX2_send_24 : decode cX2_send 24 = .ok (.iconst 1, 1) := by decide +kernel
theorem dX2_send_25 : decode cX2_send 25 = .ok (.iadd, 1) := by decide +kernel
theorem dX2_send_26 : decode cX2_send 26 = .ok (.putfield 17, 3) := by decide +kernel
theorem dX2_send_29 : decode cX2_send 29 = .ok (.aload_n 3, 1) := by decide +kernel
theorem dX2_send_30 : decode cX2_send 30 = .ok (.iload_n 1, 1) := by decide +kernel
theorem dX2_send_31 : decode cX2_send 31 = .ok (.putfield 26, 3) := by decide +kernel
theorem dX2_send_34 : decode cX2_send 34 = .ok (.aload_n 3, 1) := by decide +kernel
theorem dX2_send_35 : decode cX2_send 35 = .ok (.iload_n 2, 1) := by decide +kernel
theorem dX2_send_36 : decode cX2_send 36 = .ok (.putfield 29, 3) := by decide +kernel
theorem dX2_send_39 : decode cX2_send 39 = .ok (.aload_n 3, 1) := by decide +kernel
theorem dX2_send_40 : decode cX2_send 40 = .ok (.iconst (-1), 1) := by decide +kernel
theorem dX2_send_41 : decode cX2_send 41 = .ok (.putfield 32, 3) := by decide +kernel
theorem dX2_send_44 : decode cX2_send 44 = .ok (.aload_n 3, 1) := by decide +kernel
theorem dX2_send_45 : decode cX2_send 45 = .ok (.iconst 0, 1) := by decide +kernel
theorem dX2_send_46 : decode cX2_send 46 = .ok (.putfield 35, 3) := by decide +kernel
theorem dX2_send_49 : decode cX2_send 49 = .ok (.aload_n 3, 1) := by decide +kernel
theorem dX2_send_50 : decode cX2_send 50 = .ok (.iconst (-1), 1) := by decide +kernel
theorem dX2_send_51 : decode cX2_send 51 = .ok (.putfield 38, 3) := by decide +kernel
theorem dX2_send_54 : decode cX2_send 54 = .ok (.aload_n 3, 1) := by decide +kernel
theorem dX2_send_55 : decode cX2_send 55 = .ok (.iconst (-1), 1) := by decide +kernel
theorem dX2_send_56 : decode cX2_send 56 = .ok (.putfield 41, 3) := by decide +kernel
theorem dX2_send_59 : decode cX2_send 59 = .ok (.aload_n 3, 1) := by decide +kernel
theorem dX2_send_60 : decode cX2_send 60 = .ok (.iconst (-1), 1) := by decide +kernel
theorem dX2_send_61 : decode cX2_send 61 = .ok (.putfield 44, 3) := by decide +kernel
theorem dX2_send_64 : decode cX2_send 64 = .ok (.aload_n 3, 1) := by decide +kernel
theorem dX2_send_65 : decode cX2_send 65 = .ok (.iconst 0, 1) := by decide +kernel
theorem dX2_send_66 : decode cX2_send 66 = .ok (.putfield 47, 3) := by decide +kernel
theorem dX2_send_69 : decode cX2_send 69 = .ok (.aload_n 3, 1) := by decide +kernel
theorem dX2_send_70 : decode cX2_send 70 = .ok (.lconst 0, 1) := by decide +kernel
theorem dX2_send_71 : decode cX2_send 71 = .ok (.putfield 50, 3) := by decide +kernel
theorem dX2_send_74 : decode cX2_send 74 = .ok (.aload_n 3, 1) := by decide +kernel
theorem dX2_send_75 : decode cX2_send 75 = .ok (.areturn, 1) := by decide +kernel
theorem dX3_init_0 : decode cX3_init 0 = .ok (.aload_n 0, 1) := by decide +kernel
theorem dX3_init_1 : decode cX3_init 1 = .ok (.invokespecial 1, 3) := by decide +kernel
theorem dX3_init_4 : decode cX3_init 4 = .ok (.aload_n 0, 1) := by decide +kernel
theorem dX3_init_5 : decode cX3_init 5 = .ok (.bipush 12, 2) := by decide +kernel
theorem dX3_init_7 : decode cX3_init 7 = .ok (.anewarray 9, 3) := by decide +kernel
theorem dX3_init_10 : decode cX3_init 10 = .ok (.putfield 11, 3) := by decide +kernel
theorem dX3_init_13 : decode cX3_init 13 = .ok (.aload_n 0, 1) := by decide +kernel
theorem dX3_init_14 : decode cX3_init 14 = .ok (.iconst 0, 1) := by decide +kernel
theorem dX3_init_15 : decode cX3_init 15 = .ok (.putfield 15, 3) := by decide +kernel
theorem dX3_init_18 : decode cX3_init 18 = .ok (.aload_n 0, 1) := by decide +kernel
theorem dX3_init_19 : decode cX3_init 19 = .ok (.bipush 10, 2) := by decide +kernel
theorem dX3_init_21 : decode cX3_init 21 = .ok (.newarray .int, 2) := by decide +kernel
theorem dX3_init_23 : decode cX3_init 23 = .ok (.putfield 19, 3) := by decide +kernel
theorem dX3_init_26 : decode cX3_init 26 = .ok (.aload_n 0, 1) := by decide +kernel
theorem dX3_init_27 : decode cX3_init 27 = .ok (.iconst 0, 1) := by decide +kernel
theorem dX3_init_28 : decode cX3_init 28 = .ok (.putfield 23, 3) := by decide +kernel
theorem dX3_init_31 : decode cX3_init 31 = .ok (.aload_n 0, 1) := by decide +kernel
theorem dX3_init_32 : decode cX3_init 32 = .ok (.new 26, 3) := by decide +kernel
theorem dX3_init_35 : decode cX3_init 35 = .ok (.dup, 1) := by decide +kernel
theorem dX3_init_36 : decode cX3_init 36 = .ok (.invokespecial 28, 3) := by decide +kernel
theorem dX3_init_39 : decode cX3_init 39 = .ok (.putfield 29, 3) := by decide +kernel
theorem dX3_init_42 : decode cX3_init 42 = .ok (.return_, 1) := by decide +kernel
theorem dX3_create_0 : decode cX3_create 0 = .ok (.iload_n 1, 1) := by decide +kernel
theorem dX3_create_1 : decode cX3_create 1 = .ok (.invokestatic 33, 3) := by decide +kernel
theorem dX3_create_4 : decode cX3_create 4 = .ok (.ifCond .eq 10, 3) := by decide +kernel
theorem dX3_create_7 : decode cX3_create 7 = .ok (.aload_n 0, 1) := by decide +kernel
theorem dX3_create_8 : decode cX3_create 8 = .ok (.getfield 15, 3) := by decide +kernel
theorem dX3_create_11 : decode cX3_create 11 = .ok (.ifCond .le 5, 3) := by decide +kernel
theorem dX3_create_14 : decode cX3_create 14 = .ok (.iconst 0, 1) := by decide +kernel
theorem dX3_create_15 : decode cX3_create 15 = .ok (.ireturn, 1) := by decide +kernel
theorem dX3_create_16 : decode cX3_create 16 = .ok (.aload_n 0, 1) := by decide +kernel
theorem dX3_create_17 : decode cX3_create 17 = .ok (.iload_n 1, 1) := by decide +kernel
theorem dX3_create_18 : decode cX3_create 18 = .ok (.invokevirtual 37, 3) := by decide +kernel
theorem dX3_create_21 : decode cX3_create 21 = .ok (.astore_n 2, 1) := by decide +kernel
theorem dX3_create_22 : decode cX3_create 22 = .ok (.aload_n 2, 1) := by decide +kernel
theorem dX3_create_23 : decode cX3_create 23 = .ok (.iload_n 1, 1) := by decide +kernel
theorem dX3_create_24 : decode cX3_create 24 = .ok (.putfield 41, 3) := by decide +kernel
theorem dX3_create_27 : decode cX3_create 27 = .ok (.iconst 1, 1) := by decide +kernel
theorem dX3_create_28 : decode cX3_create 28 = .ok (.ireturn, 1) := by decide +kernel
theorem dX3_join_0 : decode cX3_join 0 = .ok (.iload_n 1, 1) := by decide +kernel
theorem dX3_join_1 : decode cX3_join 1 = .ok (.invokestatic 33, 3) := by decide +kernel
theorem dX3_join_4 : decode cX3_join 4 = .ok (.ifCond .eq 19, 3) := by decide +kernel
theorem dX3_join_7 : decode cX3_join 7 = .ok (.aload_n 0, 1) := by decide +kernel
theorem dX3_join_8 : decode cX3_join 8 = .ok (.iload_n 1, 1) := by decide +kernel
theorem dX3_join_9 : decode cX3_join 9 = .ok (.invokevirtual 44, 3) := by decide +kernel
theorem dX3_join_12 : decode cX3_join 12 = .ok (.ifnonnull 11, 3) := by decide +kernel
theorem dX3_join_15 : decode cX3_join 15 = .ok (.aload_n 0, 1) := by decide +kernel
theorem dX3_join_16 : decode cX3_join 16 = .ok (.iload_n 2, 1) := by decide +kernel
theorem dX3_join_17 : decode cX3_join 17 = .ok (.invokevirtual 47, 3) := by decide +kernel
theorem dX3_join_20 : decode cX3_join 20 = .ok (.ifnonnull 5, 3) := by decide +kernel
theorem dX3_join_23 : decode cX3_join 23 = .ok (.iconst 0, 1) := by decide +kernel
theorem dX3_join_24 : decode cX3_join 24 = .ok (.ireturn, 1) := by decide +kernel
theorem dX3_join_25 : decode cX3_join 25 = .ok (.aload_n 0, 1) := by decide +kernel
theorem dX3_join_26 : decode cX3_join 26 = .ok (.getfield 15, 3) := by decide +kernel
theorem dX3_join_29 : decode cX3_join 29 = .ok (.bipush 12, 2) := by decide +kernel
theorem dX3_join_31 : decode cX3_join 31 = .ok (.if_icmp .ge 13, 3) := by decide +kernel
theorem dX3_join_34 : decode cX3_join 34 = .ok (.aload_n 0, 1) := by decide +kernel
theorem dX3_join_35 : decode cX3_join 35 = .ok (.getfield 29, 3) := by decide +kernel
theorem dX3_join_38 : decode cX3_join 38 = .ok (.invokevirtual 50, 3) := by decide +kernel
theorem dX3_join_41 : decode cX3_join 41 = .ok (.ifCond .eq 5, 3) := by decide +kernel
theorem dX3_join_44 : decode cX3_join 44 = .ok (.iconst 0, 1) := by decide +kernel
theorem dX3_join_45 : decode cX3_join 45 = .ok (.ireturn, 1) := by decide +kernel
theorem dX3_join_46 : decode cX3_join 46 = .ok (.aload_n 0, 1) := by decide +kernel
theorem dX3_join_47 : decode cX3_join 47 = .ok (.iload_n 1, 1) := by decide +kernel
theorem dX3_join_48 : decode cX3_join 48 = .ok (.invokevirtual 37, 3) := by decide +kernel
theorem dX3_join_51 : decode cX3_join 51 = .ok (.pop, 1) := by decide +kernel
theorem dX3_join_52 : decode cX3_join 52 = .ok (.aload_n 0, 1) := by decide +kernel
theorem dX3_join_53 : decode cX3_join 53 = .ok (.iload_n 2, 1) := by decide +kernel
theorem dX3_join_54 : decode cX3_join 54 = .ok (.iload_n 1, 1) := by decide +kernel
theorem dX3_join_55 : decode cX3_join 55 = .ok (.iconst 1, 1) := by decide +kernel
theorem dX3_join_56 : decode cX3_join 56 = .ok (.iload_n 1, 1) := by decide +kernel
theorem dX3_join_57 : decode cX3_join 57 = .ok (.invokevirtual 54, 3) := by decide +kernel
theorem dX3_join_60 : decode cX3_join 60 = .ok (.pop, 1) := by decide +kernel
theorem dX3_join_61 : decode cX3_join 61 = .ok (.iconst 1, 1) := by decide +kernel
theorem dX3_join_62 : decode cX3_join 62 = .ok (.ireturn, 1) := by decide +kernel
theorem dX3_stabilise_0 : decode cX3_stabilise 0 = .ok (.aload_n 0, 1) := by decide +kernel
theorem dX3_stabilise_1 : decode cX3_stabilise 1 = .ok (.iload_n 1, 1) := by decide +kernel
theorem dX3_stabilise_2 : decode cX3_stabilise 2 = .ok (.invokevirtual 47, 3) := by decide +kernel
theorem dX3_stabilise_5 : decode cX3_stabilise 5 = .ok (.astore_n 2, 1) := by decide +kernel
theorem dX3_stabilise_6 : decode cX3_stabilise 6 = .ok (.aload_n 2, 1) := by decide +kernel
theorem dX3_stabilise_7 : decode cX3_stabilise 7 = .ok (.ifnull 13, 3) := by decide +kernel
theorem dX3_stabilise_10 : decode cX3_stabilise 10 = .ok (.aload_n 0, 1) := by decide +kernel
theorem dX3_stabilise_11 : decode cX3_stabilise 11 = .ok (.getfield 29, 3) := by decide +kernel
theorem dX3_stabilise_14 : decode cX3_stabilise 14 = .ok (.invokevirtual 50, 3) := by decide +kernel
theorem dX3_stabilise_17 : decode cX3_stabilise 17 = .ok (.ifCond .eq 5, 3) := by decide +kernel
theorem dX3_stabilise_20 : decode cX3_stabilise 20 = .ok (.iconst 0, 1) := by decide +kernel
theorem dX3_stabilise_21 : decode cX3_stabilise 21 = .ok (.ireturn, 1) := by decide +kernel
theorem dX3_stabilise_22 : decode cX3_stabilise 22 = .ok (.aload_n 0, 1) := by decide +kernel
theorem dX3_stabilise_23 : decode cX3_stabilise 23 = .ok (.getfield 29, 3) := by decide +kernel
theorem dX3_stabilise_26 : decode cX3_stabilise 26 = .ok (.bipush 6, 2) := by decide +kernel
theorem dX3_stabilise_28 : decode cX3_stabilise 28 = .ok (.aload_n 2, 1) := by decide +kernel
theorem dX3_stabilise_29 : decode cX3_stabilise 29 = .ok (.getfield 41, 3) := by decide +kernel
theorem dX3_stabilise_32 : decode cX3_stabilise 32 = .ok (.invokevirtual 58, 3) := by decide +kernel
theorem dX3_stabilise_35 : decode cX3_stabilise 35 = .ok (.astore_n 3, 1) := by decide +kernel
theorem dX3_stabilise_36 : decode cX3_stabilise 36 = .ok (.aload_n 3, 1) := by decide +kernel
theorem dX3_stabilise_37 : decode cX3_stabilise 37 = .ok (.iload_n 1, 1) := by decide +kernel
theorem dX3_stabilise_38 : decode cX3_stabilise 38 = .ok (.putfield 62, 3) := by decide +kernel
theorem dX3_stabilise_41 : decode cX3_stabilise 41 = .ok (.iconst 1, 1) := by decide +kernel
theorem dX3_stabilise_42 : decode cX3_stabilise 42 = .ok (.ireturn, 1) := by decide +kernel
theorem dX3_fix_0 : decode cX3_fix 0 = .ok (.aload_n 0, 1) := by decide +kernel
theorem dX3_fix_1 : decode cX3_fix 1 = .ok (.iload_n 1, 1) := by decide +kernel
theorem dX3_fix_2 : decode cX3_fix 2 = .ok (.invokevirtual 47, 3) := by decide +kernel
theorem dX3_fix_5 : decode cX3_fix 5 = .ok (.ifnull 20, 3) := by decide +kernel
theorem dX3_fix_8 : decode cX3_fix 8 = .ok (.iload_n 2, 1) := by decide +kernel
theorem dX3_fix_9 : decode cX3_fix 9 = .ok (.invokestatic 67, 3) := by decide +kernel
theorem dX3_fix_12 : decode cX3_fix 12 = .ok (.ifCond .eq 13, 3) := by decide +kernel
theorem dX3_fix_15 : decode cX3_fix 15 = .ok (.aload_n 0, 1) := by decide +kernel
theorem dX3_fix_16 : decode cX3_fix 16 = .ok (.getfield 29, 3) := by decide +kernel
theorem dX3_fix_19 : decode cX3_fix 19 = .ok (.invokevirtual 50, 3) := by decide +kernel
theorem dX3_fix_22 : decode cX3_fix 22 = .ok (.ifCond .eq 5, 3) := by decide +kernel
theorem dX3_fix_25 : decode cX3_fix 25 = .ok (.iconst 0, 1) := by decide +kernel
theorem dX3_fix_26 : decode cX3_fix 26 = .ok (.ireturn, 1) := by decide +kernel
theorem dX3_fix_27 : decode cX3_fix 27 = .ok (.aload_n 0, 1) := by decide +kernel
theorem dX3_fix_28 : decode cX3_fix 28 = .ok (.iload_n 1, 1) := by decide +kernel
theorem dX3_fix_29 : decode cX3_fix 29 = .ok (.iload_n 1, 1) := by decide +kernel
theorem dX3_fix_30 : decode cX3_fix 30 = .ok (.iconst 2, 1) := by decide +kernel
theorem dX3_fix_31 : decode cX3_fix 31 = .ok (.iload_n 1, 1) := by decide +kernel
theorem dX3_fix_32 : decode cX3_fix 32 = .ok (.iload_n 2, 1) := by decide +kernel
theorem dX3_fix_33 : decode cX3_fix 33 = .ok (.invokestatic 70, 3) := by decide +kernel
theorem dX3_fix_36 : decode cX3_fix 36 = .ok (.invokevirtual 54, 3) := by decide +kernel
theorem dX3_fix_39 : decode cX3_fix 39 = .ok (.astore_n 3, 1) := by decide +kernel
theorem dX3_fix_40 : decode cX3_fix 40 = .ok (.aload_n 3, 1) := by decide +kernel
theorem dX3_fix_41 : decode cX3_fix 41 = .ok (.iload_n 2, 1) := by decide +kernel
theorem dX3_fix_42 : decode cX3_fix 42 = .ok (.putfield 74, 3) := by decide +kernel
theorem dX3_fix_45 : decode cX3_fix 45 = .ok (.iconst 1, 1) := by decide +kernel
theorem dX3_fix_46 : decode cX3_fix 46 = .ok (.ireturn, 1) := by decide +kernel
theorem dX3_put_0 : decode cX3_put 0 = .ok (.aload_n 0, 1) := by decide +kernel
theorem dX3_put_1 : decode cX3_put 1 = .ok (.iload_n 1, 1) := by decide +kernel
theorem dX3_put_2 : decode cX3_put 2 = .ok (.invokevirtual 47, 3) := by decide +kernel
theorem dX3_put_5 : decode cX3_put 5 = .ok (.ifnull 28, 3) := by decide +kernel
theorem dX3_put_8 : decode cX3_put 8 = .ok (.iload_n 2, 1) := by decide +kernel
theorem dX3_put_9 : decode cX3_put 9 = .ok (.invokestatic 33, 3) := by decide +kernel
theorem dX3_put_12 : decode cX3_put 12 = .ok (.ifCond .eq 21, 3) := by decide +kernel
theorem dX3_put_15 : decode cX3_put 15 = .ok (.aload_n 0, 1) := by decide +kernel
theorem dX3_put_16 : decode cX3_put 16 = .ok (.getfield 29, 3) := by decide +kernel
theorem dX3_put_19 : decode cX3_put 19 = .ok (.invokevirtual 50, 3) := by decide +kernel
theorem dX3_put_22 : decode cX3_put 22 = .ok (.ifCond .ne 11, 3) := by decide +kernel
theorem dX3_put_25 : decode cX3_put 25 = .ok (.aload_n 0, 1) := by decide +kernel
theorem dX3_put_26 : decode cX3_put 26 = .ok (.iload_n 2, 1) := by decide +kernel
theorem dX3_put_27 : decode cX3_put 27 = .ok (.invokevirtual 77, 3) := by decide +kernel
theorem dX3_put_30 : decode cX3_put 30 = .ok (.ifCond .ne 5, 3) := by decide +kernel
theorem dX3_put_33 : decode cX3_put 33 = .ok (.iconst 0, 1) := by decide +kernel
theorem dX3_put_34 : decode cX3_put 34 = .ok (.ireturn, 1) := by decide +kernel
theorem dX3_put_35 : decode cX3_put 35 = .ok (.aload_n 0, 1) := by decide +kernel
theorem dX3_put_36 : decode cX3_put 36 = .ok (.iload_n 1, 1) := by decide +kernel
theorem dX3_put_37 : decode cX3_put 37 = .ok (.iload_n 1, 1) := by decide +kernel
theorem dX3_put_38 : decode cX3_put 38 = .ok (.iconst 3, 1) := by decide +kernel
theorem dX3_put_39 : decode cX3_put 39 = .ok (.iload_n 2, 1) := by decide +kernel
theorem dX3_put_40 : decode cX3_put 40 = .ok (.invokevirtual 54, 3) := by decide +kernel
theorem dX3_put_43 : decode cX3_put 43 = .ok (.astore 4, 2) := by decide +kernel
theorem dX3_put_45 : decode cX3_put 45 = .ok (.aload 4, 2) := by decide +kernel
theorem dX3_put_47 : decode cX3_put 47 = .ok (.iload_n 3, 1) := by decide +kernel
theorem dX3_put_48 : decode cX3_put 48 = .ok (.i2l, 1) := by decide +kernel
theorem dX3_put_49 : decode cX3_put 49 = .ok (.putfield 80, 3) := by decide +kernel
theorem dX3_put_52 : decode cX3_put 52 = .ok (.iconst 1, 1) := by decide +kernel
theorem dX3_put_53 : decode cX3_put 53 = .ok (.ireturn, 1) := by decide +kernel
theorem dX3_get_0 : decode cX3_get 0 = .ok (.aload_n 0, 1) := by decide +kernel
theorem dX3_get_1 : decode cX3_get 1 = .ok (.iload_n 1, 1) := by decide +kernel
theorem dX3_get_2 : decode cX3_get 2 = .ok (.invokevirtual 47, 3) := by decide +kernel
theorem dX3_get_5 : decode cX3_get 5 = .ok (.ifnull 20, 3) := by decide +kernel
theorem dX3_get_8 : decode cX3_get 8 = .ok (.iload_n 2, 1) := by decide +kernel
theorem dX3_get_9 : decode cX3_get 9 = .ok (.invokestatic 33, 3) := by decide +kernel
theorem dX3_get_12 : decode cX3_get 12 = .ok (.ifCond .eq 13, 3) := by decide +kernel
theorem dX3_get_15 : decode cX3_get 15 = .ok (.aload_n 0, 1) := by decide +kernel
theorem dX3_get_16 : decode cX3_get 16 = .ok (.getfield 29, 3) := by decide +kernel
theorem dX3_get_19 : decode cX3_get 19 = .ok (.invokevirtual 50, 3) := by decide +kernel
theorem dX3_get_22 : decode cX3_get 22 = .ok (.ifCond .eq 5, 3) := by decide +kernel
theorem dX3_get_25 : decode cX3_get 25 = .ok (.iconst 0, 1) := by decide +kernel
theorem dX3_get_26 : decode cX3_get 26 = .ok (.ireturn, 1) := by decide +kernel
theorem dX3_get_27 : decode cX3_get 27 = .ok (.aload_n 0, 1) := by decide +kernel
theorem dX3_get_28 : decode cX3_get 28 = .ok (.iload_n 1, 1) := by decide +kernel
theorem dX3_get_29 : decode cX3_get 29 = .ok (.iload_n 1, 1) := by decide +kernel
theorem dX3_get_30 : decode cX3_get 30 = .ok (.iconst 4, 1) := by decide +kernel
theorem dX3_get_31 : decode cX3_get 31 = .ok (.iload_n 2, 1) := by decide +kernel
theorem dX3_get_32 : decode cX3_get 32 = .ok (.invokevirtual 54, 3) := by decide +kernel
theorem dX3_get_35 : decode cX3_get 35 = .ok (.pop, 1) := by decide +kernel
theorem dX3_get_36 : decode cX3_get 36 = .ok (.iconst 1, 1) := by decide +kernel
theorem dX3_get_37 : decode cX3_get 37 = .ok (.ireturn, 1) := by decide +kernel
theorem dX3_deliver_0 : decode cX3_deliver 0 = .ok (.aload_n 0, 1) := by decide +kernel
theorem dX3_deliver_1 : decode cX3_deliver 1 = .ok (.iload_n 1, 1) := by decide +kernel
theorem dX3_deliver_2 : decode cX3_deliver 2 = .ok (.invokevirtual 84, 3) := by decide +kernel
theorem dX3_deliver_5 : decode cX3_deliver 5 = .ok (.ireturn, 1) := by decide +kernel
theorem dX3_pump_0 : decode cX3_pump 0 = .ok (.iload_n 1, 1) := by decide +kernel
theorem dX3_pump_1 : decode cX3_pump 1 = .ok (.iconst 1, 1) := by decide +kernel
theorem dX3_pump_2 : decode cX3_pump 2 = .ok (.if_icmp .lt 9, 3) := by decide +kernel
theorem dX3_pump_5 : decode cX3_pump 5 = .ok (.iload_n 1, 1) := by decide +kernel
theorem dX3_pump_6 : decode cX3_pump 6 = .ok (.bipush 8, 2) := by decide +kernel
theorem dX3_pump_8 : decode cX3_pump 8 = .ok (.if_icmp .le 5, 3) := by decide +kernel
theorem dX3_pump_11 : decode cX3_pump 11 = .ok (.iconst (-1), 1) := by decide +kernel
theorem dX3_pump_12 : decode cX3_pump 12 = .ok (.ireturn, 1) := by decide +kernel
theorem dX3_pump_13 : decode cX3_pump 13 = .ok (.iconst 0, 1) := by decide +kernel
theorem dX3_pump_14 : decode cX3_pump 14 = .ok (.istore_n 2, 1) := by decide +kernel
theorem dX3_pump_15 : decode cX3_pump 15 = .ok (.iload_n 2, 1) := by decide +kernel
theorem dX3_pump_16 : decode cX3_pump 16 = .ok (.iload_n 1, 1) := by decide +kernel
theorem dX3_pump_17 : decode cX3_pump 17 = .ok (.if_icmp .ge 18, 3) := by decide +kernel
theorem dX3_pump_20 : decode cX3_pump 20 = .ok (.aload_n 0, 1) := by decide +kernel
theorem dX3_pump_21 : decode cX3_pump 21 = .ok (.iconst 0, 1) := by decide +kernel
theorem dX3_pump_22 : decode cX3_pump 22 = .ok (.invokevirtual 84, 3) := by decide +kernel
theorem dX3_pump_25 : decode cX3_pump 25 = .ok (.iconst (-1), 1) := by decide +kernel
theorem dX3_pump_26 : decode cX3_pump 26 = .ok (.if_icmp .eq 9, 3) := by decide +kernel
theorem dX3_pump_29 : decode cX3_pump 29 = .ok (.iinc 2 1, 3) := by decide +kernel
theorem dX3_pump_32 : decode cX3_pump 32 = .ok (.goto (-17), 3) := by decide +kernel
theorem dX3_pump_35 : decode cX3_pump 35 = .ok (.iload_n 2, 1) := by decide +kernel
theorem dX3_pump_36 : decode cX3_pump 36 = .ok (.ireturn, 1) := by decide +kernel
theorem dX3_flying_0 : decode cX3_flying 0 = .ok (.aload_n 0, 1) := by decide +kernel
theorem dX3_flying_1 : decode cX3_flying 1 = .ok (.getfield 29, 3) := by decide +kernel
theorem dX3_flying_4 : decode cX3_flying 4 = .ok (.getfield 88, 3) := by decide +kernel
theorem dX3_flying_7 : decode cX3_flying 7 = .ok (.ireturn, 1) := by decide +kernel
theorem dX3_message_0 : decode cX3_message 0 = .ok (.aload_n 0, 1) := by decide +kernel
theorem dX3_message_1 : decode cX3_message 1 = .ok (.getfield 29, 3) := by decide +kernel
theorem dX3_message_4 : decode cX3_message 4 = .ok (.iload_n 1, 1) := by decide +kernel
theorem dX3_message_5 : decode cX3_message 5 = .ok (.invokevirtual 91, 3) := by decide +kernel
theorem dX3_message_8 : decode cX3_message 8 = .ok (.astore_n 2, 1) := by decide +kernel
theorem dX3_message_9 : decode cX3_message 9 = .ok (.aload_n 2, 1) := by decide +kernel
theorem dX3_message_10 : decode cX3_message 10 = .ok (.ifnonnull 7, 3) := by decide +kernel
theorem dX3_message_13 : decode cX3_message 13 = .ok (.iconst (-1), 1) := by decide +kernel
theorem dX3_message_14 : decode cX3_message 14 = .ok (.goto 16, 3) := by decide +kernel
theorem dX3_message_17 : decode cX3_message 17 = .ok (.aload_n 2, 1) := by decide +kernel
theorem dX3_message_18 : decode cX3_message 18 = .ok (.getfield 95, 3) := by decide +kernel
theorem dX3_message_21 : decode cX3_message 21 = .ok (.sipush 256, 3) := by decide +kernel
theorem dX3_message_24 : decode cX3_message 24 = .ok (.imul, 1) := by decide +kernel
theorem dX3_message_25 : decode cX3_message 25 = .ok (.aload_n 2, 1) := by decide +kernel
theorem dX3_message_26 : decode cX3_message 26 = .ok (.getfield 98, 3) := by decide +kernel
theorem dX3_message_29 : decode cX3_message 29 = .ok (.iadd, 1) := by decide +kernel
theorem dX3_message_30 : decode cX3_message 30 = .ok (.ireturn, 1) := by decide +kernel
theorem dX3_successor_0 : decode cX3_successor 0 = .ok (.aload_n 0, 1) := by decide +kernel
theorem dX3_successor_1 : decode cX3_successor 1 = .ok (.iload_n 1, 1) := by decide +kernel
theorem dX3_successor_2 : decode cX3_successor 2 = .ok (.invokevirtual 47, 3) := by decide +kernel
theorem dX3_successor_5 : decode cX3_successor 5 = .ok (.astore_n 2, 1) := by decide +kernel
theorem dX3_successor_6 : decode cX3_successor 6 = .ok (.aload_n 2, 1) := by decide +kernel
theorem dX3_successor_7 : decode cX3_successor 7 = .ok (.ifnonnull 7, 3) := by decide +kernel
theorem dX3_successor_10 : decode cX3_successor 10 = .ok (.iconst (-1), 1) := by decide +kernel
theorem dX3_successor_11 : decode cX3_successor 11 = .ok (.goto 7, 3) := by decide +kernel
theorem dX3_successor_14 : decode cX3_successor 14 = .ok (.aload_n 2, 1) := by decide +kernel
theorem dX3_successor_15 : decode cX3_successor 15 = .ok (.getfield 41, 3) := by decide +kernel
theorem dX3_successor_18 : decode cX3_successor 18 = .ok (.ireturn, 1) := by decide +kernel
theorem dX3_predecessor_0 : decode cX3_predecessor 0 = .ok (.aload_n 0, 1) := by decide +kernel
theorem dX3_predecessor_1 : decode cX3_predecessor 1 = .ok (.iload_n 1, 1) := by decide +kernel
theorem dX3_predecessor_2 : decode cX3_predecessor 2 = .ok (.invokevirtual 47, 3) := by decide +kernel
theorem dX3_predecessor_5 : decode cX3_predecessor 5 = .ok (.astore_n 2, 1) := by decide +kernel
theorem dX3_predecessor_6 : decode cX3_predecessor 6 = .ok (.aload_n 2, 1) := by decide +kernel
theorem dX3_predecessor_7 : decode cX3_predecessor 7 = .ok (.ifnonnull 7, 3) := by decide +kernel
theorem dX3_predecessor_10 : decode cX3_predecessor 10 = .ok (.iconst (-1), 1) := by decide +kernel
theorem dX3_predecessor_11 : decode cX3_predecessor 11 = .ok (.goto 7, 3) := by decide +kernel
theorem dX3_predecessor_14 : decode cX3_predecessor 14 = .ok (.aload_n 2, 1) := by decide +kernel
theorem dX3_predecessor_15 : decode cX3_predecessor 15 = .ok (.getfield 101, 3) := by decide +kernel
theorem dX3_predecessor_18 : decode cX3_predecessor 18 = .ok (.ireturn, 1) := by decide +kernel
theorem dX3_finger_0 : decode cX3_finger 0 = .ok (.aload_n 0, 1) := by decide +kernel
theorem dX3_finger_1 : decode cX3_finger 1 = .ok (.iload_n 1, 1) := by decide +kernel
theorem dX3_finger_2 : decode cX3_finger 2 = .ok (.invokevirtual 47, 3) := by decide +kernel
theorem dX3_finger_5 : decode cX3_finger 5 = .ok (.astore_n 3, 1) := by decide +kernel
theorem dX3_finger_6 : decode cX3_finger 6 = .ok (.aload_n 3, 1) := by decide +kernel
theorem dX3_finger_7 : decode cX3_finger 7 = .ok (.ifnull 10, 3) := by decide +kernel
theorem dX3_finger_10 : decode cX3_finger 10 = .ok (.iload_n 2, 1) := by decide +kernel
theorem dX3_finger_11 : decode cX3_finger 11 = .ok (.invokestatic 67, 3) := by decide +kernel
theorem dX3_finger_14 : decode cX3_finger 14 = .ok (.ifCond .ne 7, 3) := by decide +kernel
theorem dX3_finger_17 : decode cX3_finger 17 = .ok (.iconst (-1), 1) := by decide +kernel
theorem dX3_finger_18 : decode cX3_finger 18 = .ok (.goto 9, 3) := by decide +kernel
theorem dX3_finger_21 : decode cX3_finger 21 = .ok (.aload_n 3, 1) := by decide +kernel
theorem dX3_finger_22 : decode cX3_finger 22 = .ok (.getfield 104, 3) := by decide +kernel
theorem dX3_finger_25 : decode cX3_finger 25 = .ok (.iload_n 2, 1) := by decide +kernel
theorem dX3_finger_26 : decode cX3_finger 26 = .ok (.iaload, 1) := by decide +kernel
theorem dX3_finger_27 : decode cX3_finger 27 = .ok (.ireturn, 1) := by decide +kernel
theorem dX3_entry_0 : decode cX3_entry 0 = .ok (.aload_n 0, 1) := by decide +kernel
theorem dX3_entry_1 : decode cX3_entry 1 = .ok (.iload_n 1, 1) := by decide +kernel
theorem dX3_entry_2 : decode cX3_entry 2 = .ok (.invokevirtual 47, 3) := by decide +kernel
theorem dX3_entry_5 : decode cX3_entry 5 = .ok (.astore_n 3, 1) := by decide +kernel
theorem dX3_entry_6 : decode cX3_entry 6 = .ok (.aload_n 3, 1) := by decide +kernel
theorem dX3_entry_7 : decode cX3_entry 7 = .ok (.ifnonnull 9, 3) := by decide +kernel
theorem dX3_entry_10 : decode cX3_entry 10 = .ok (.ldc2_w 107, 3) := by decide +kernel
theorem dX3_entry_13 : decode cX3_entry 13 = .ok (.goto 9, 3) := by decide +kernel
theorem dX3_entry_16 : decode cX3_entry 16 = .ok (.aload_n 0, 1) := by decide +kernel
theorem dX3_entry_17 : decode cX3_entry 17 = .ok (.aload_n 3, 1) := by decide +kernel
theorem dX3_entry_18 : decode cX3_entry 18 = .ok (.iload_n 2, 1) := by decide +kernel
theorem dX3_entry_19 : decode cX3_entry 19 = .ok (.invokevirtual 109, 3) := by decide +kernel
theorem dX3_entry_22 : decode cX3_entry 22 = .ok (.lreturn, 1) := by decide +kernel
theorem dX3_entries_0 : decode cX3_entries 0 = .ok (.aload_n 0, 1) := by decide +kernel
theorem dX3_entries_1 : decode cX3_entries 1 = .ok (.iload_n 1, 1) := by decide +kernel
theorem dX3_entries_2 : decode cX3_entries 2 = .ok (.invokevirtual 47, 3) := by decide +kernel
theorem dX3_entries_5 : decode cX3_entries 5 = .ok (.astore_n 2, 1) := by decide +kernel
theorem dX3_entries_6 : decode cX3_entries 6 = .ok (.aload_n 2, 1) := by decide +kernel
theorem dX3_entries_7 : decode cX3_entries 7 = .ok (.ifnonnull 5, 3) := by decide +kernel
theorem dX3_entries_10 : decode cX3_entries 10 = .ok (.iconst (-1), 1) := by decide +kernel
theorem dX3_entries_11 : decode cX3_entries 11 = .ok (.ireturn, 1) := by decide +kernel
theorem dX3_entries_12 : decode cX3_entries 12 = .ok (.iconst 0, 1) := by decide +kernel
theorem dX3_entries_13 : decode cX3_entries 13 = .ok (.istore_n 3, 1) := by decide +kernel
theorem dX3_entries_14 : decode cX3_entries 14 = .ok (.iconst 0, 1) := by decide +kernel
theorem dX3_entries_15 : decode cX3_entries 15 = .ok (.istore 4, 2) := by decide +kernel
theorem dX3_entries_17 : decode cX3_entries 17 = .ok (.iload 4, 2) := by decide +kernel
theorem dX3_entries_19 : decode cX3_entries 19 = .ok (.bipush 10, 2) := by decide +kernel
theorem dX3_entries_21 : decode cX3_entries 21 = .ok (.if_icmp .ge 26, 3) := by decide +kernel
theorem dX3_entries_24 : decode cX3_entries 24 = .ok (.aload_n 2, 1) := by decide +kernel
theorem dX3_entries_25 : decode cX3_entries 25 = .ok (.getfield 113, 3) := by decide +kernel
theorem dX3_entries_28 : decode cX3_entries 28 = .ok (.iload 4, 2) := by decide +kernel
theorem dX3_entries_30 : decode cX3_entries 30 = .ok (.laload, 1) := by decide +kernel
theorem dX3_entries_31 : decode cX3_entries 31 = .ok (.ldc2_w 107, 3) := by decide +kernel
theorem dX3_entries_34 : decode cX3_entries 34 = .ok (.lcmp, 1) := by decide +kernel
theorem dX3_entries_35 : decode cX3_entries 35 = .ok (.ifCond .eq 6, 3) := by decide +kernel
theorem dX3_entries_38 : decode cX3_entries 38 = .ok (.iinc 3 1, 3) := by decide +kernel
theorem dX3_entries_41 : decode cX3_entries 41 = .ok (.iinc 4 1, 3) := by decide +kernel
theorem dX3_entries_44 : decode cX3_entries 44 = .ok (.goto (-27), 3) := by decide +kernel
theorem dX3_entries_47 : decode cX3_entries 47 = .ok (.iload_n 3, 1) := by decide +kernel
theorem dX3_entries_48 : decode cX3_entries 48 = .ok (.ireturn, 1) := by decide +kernel
theorem dX3_answer_0 : decode cX3_answer 0 = .ok (.aload_n 0, 1) := by decide +kernel
theorem dX3_answer_1 : decode cX3_answer 1 = .ok (.iload_n 1, 1) := by decide +kernel
theorem dX3_answer_2 : decode cX3_answer 2 = .ok (.invokevirtual 44, 3) := by decide +kernel
theorem dX3_answer_5 : decode cX3_answer 5 = .ok (.astore_n 2, 1) := by decide +kernel
theorem dX3_answer_6 : decode cX3_answer 6 = .ok (.aload_n 2, 1) := by decide +kernel
theorem dX3_answer_7 : decode cX3_answer 7 = .ok (.ifnonnull 9, 3) := by decide +kernel
theorem dX3_answer_10 : decode cX3_answer 10 = .ok (.ldc2_w 117, 3) := by decide +kernel
theorem dX3_answer_13 : decode cX3_answer 13 = .ok (.goto 7, 3) := by decide +kernel
theorem dX3_answer_16 : decode cX3_answer 16 = .ok (.aload_n 2, 1) := by decide +kernel
theorem dX3_answer_17 : decode cX3_answer 17 = .ok (.getfield 119, 3) := by decide +kernel
theorem dX3_answer_20 : decode cX3_answer 20 = .ok (.lreturn, 1) := by decide +kernel
theorem dX3_hops_0 : decode cX3_hops 0 = .ok (.aload_n 0, 1) := by decide +kernel
theorem dX3_hops_1 : decode cX3_hops 1 = .ok (.iload_n 1, 1) := by decide +kernel
theorem dX3_hops_2 : decode cX3_hops 2 = .ok (.invokevirtual 44, 3) := by decide +kernel
theorem dX3_hops_5 : decode cX3_hops 5 = .ok (.astore_n 2, 1) := by decide +kernel
theorem dX3_hops_6 : decode cX3_hops 6 = .ok (.aload_n 2, 1) := by decide +kernel
theorem dX3_hops_7 : decode cX3_hops 7 = .ok (.ifnonnull 7, 3) := by decide +kernel
theorem dX3_hops_10 : decode cX3_hops 10 = .ok (.iconst (-1), 1) := by decide +kernel
theorem dX3_hops_11 : decode cX3_hops 11 = .ok (.goto 7, 3) := by decide +kernel
theorem dX3_hops_14 : decode cX3_hops 14 = .ok (.aload_n 2, 1) := by decide +kernel
theorem dX3_hops_15 : decode cX3_hops 15 = .ok (.getfield 122, 3) := by decide +kernel
theorem dX3_hops_18 : decode cX3_hops 18 = .ok (.ireturn, 1) := by decide +kernel
theorem dX3_owner_0 : decode cX3_owner 0 = .ok (.iload_n 1, 1) := by decide +kernel
theorem dX3_owner_1 : decode cX3_owner 1 = .ok (.invokestatic 33, 3) := by decide +kernel
theorem dX3_owner_4 : decode cX3_owner 4 = .ok (.ifCond .eq 11, 3) := by decide +kernel
theorem dX3_owner_7 : decode cX3_owner 7 = .ok (.aload_n 0, 1) := by decide +kernel
theorem dX3_owner_8 : decode cX3_owner 8 = .ok (.iload_n 1, 1) := by decide +kernel
theorem dX3_owner_9 : decode cX3_owner 9 = .ok (.invokevirtual 125, 3) := by decide +kernel
theorem dX3_owner_12 : decode cX3_owner 12 = .ok (.goto 4, 3) := by decide +kernel
theorem dX3_owner_15 : decode cX3_owner 15 = .ok (.iconst (-1), 1) := by decide +kernel
theorem dX3_owner_16 : decode cX3_owner 16 = .ok (.ireturn, 1) := by decide +kernel
theorem dX3_wrong_0 : decode cX3_wrong 0 = .ok (.iconst 0, 1) := by decide +kernel
theorem dX3_wrong_1 : decode cX3_wrong 1 = .ok (.istore_n 1, 1) := by decide +kernel
theorem dX3_wrong_2 : decode cX3_wrong 2 = .ok (.iconst 0, 1) := by decide +kernel
theorem dX3_wrong_3 : decode cX3_wrong 3 = .ok (.istore_n 2, 1) := by decide +kernel
theorem dX3_wrong_4 : decode cX3_wrong 4 = .ok (.iload_n 2, 1) := by decide +kernel
theorem dX3_wrong_5 : decode cX3_wrong 5 = .ok (.aload_n 0, 1) := by decide +kernel
theorem dX3_wrong_6 : decode cX3_wrong 6 = .ok (.getfield 15, 3) := by decide +kernel
theorem dX3_wrong_9 : decode cX3_wrong 9 = .ok (.if_icmp .ge 34, 3) := by decide +kernel
theorem dX3_wrong_12 : decode cX3_wrong 12 = .ok (.aload_n 0, 1) := by decide +kernel
theorem dX3_wrong_13 : decode cX3_wrong 13 = .ok (.getfield 11, 3) := by decide +kernel
theorem dX3_wrong_16 : decode cX3_wrong 16 = .ok (.iload_n 2, 1) := by decide +kernel
theorem dX3_wrong_17 : decode cX3_wrong 17 = .ok (.aaload, 1) := by decide +kernel
theorem dX3_wrong_18 : decode cX3_wrong 18 = .ok (.invokevirtual 128, 3) := by decide +kernel
theorem dX3_wrong_21 : decode cX3_wrong 21 = .ok (.ifCond .eq 16, 3) := by decide +kernel
theorem dX3_wrong_24 : decode cX3_wrong 24 = .ok (.iload_n 1, 1) := by decide +kernel
theorem dX3_wrong_25 : decode cX3_wrong 25 = .ok (.aload_n 0, 1) := by decide +kernel
theorem dX3_wrong_26 : decode cX3_wrong 26 = .ok (.aload_n 0, 1) := by decide +kernel
theorem dX3_wrong_27 : decode cX3_wrong 27 = .ok (.getfield 11, 3) := by decide +kernel
theorem dX3_wrong_30 : decode cX3_wrong 30 = .ok (.iload_n 2, 1) := by decide +kernel
theorem dX3_wrong_31 : decode cX3_wrong 31 = .ok (.aaload, 1) := by decide +kernel
theorem dX3_wrong_32 : decode cX3_wrong 32 = .ok (.invokevirtual 131, 3) := by decide +kernel
theorem dX3_wrong_35 : decode cX3_wrong 35 = .ok (.iadd, 1) := by decide +kernel
theorem dX3_wrong_36 : decode cX3_wrong 36 = .ok (.istore_n 1, 1) := by decide +kernel
theorem dX3_wrong_37 : decode cX3_wrong 37 = .ok (.iinc 2 1, 3) := by decide +kernel
theorem dX3_wrong_40 : decode cX3_wrong 40 = .ok (.goto (-36), 3) := by decide +kernel
theorem dX3_wrong_43 : decode cX3_wrong 43 = .ok (.iload_n 1, 1) := by decide +kernel
theorem dX3_wrong_44 : decode cX3_wrong 44 = .ok (.ireturn, 1) := by decide +kernel
theorem dX3_misplaced_0 : decode cX3_misplaced 0 = .ok (.iconst 0, 1) := by decide +kernel
theorem dX3_misplaced_1 : decode cX3_misplaced 1 = .ok (.istore_n 1, 1) := by decide +kernel
theorem dX3_misplaced_2 : decode cX3_misplaced 2 = .ok (.iconst 0, 1) := by decide +kernel
theorem dX3_misplaced_3 : decode cX3_misplaced 3 = .ok (.istore_n 2, 1) := by decide +kernel
theorem dX3_misplaced_4 : decode cX3_misplaced 4 = .ok (.iload_n 2, 1) := by decide +kernel
theorem dX3_misplaced_5 : decode cX3_misplaced 5 = .ok (.aload_n 0, 1) := by decide +kernel
theorem dX3_misplaced_6 : decode cX3_misplaced 6 = .ok (.getfield 23, 3) := by decide +kernel
theorem dX3_misplaced_9 : decode cX3_misplaced 9 = .ok (.if_icmp .ge 74, 3) := by decide +kernel
theorem dX3_misplaced_12 : decode cX3_misplaced 12 = .ok (.aload_n 0, 1) := by decide +kernel
theorem dX3_misplaced_13 : decode cX3_misplaced 13 = .ok (.aload_n 0, 1) := by decide +kernel
theorem dX3_misplaced_14 : decode cX3_misplaced 14 = .ok (.getfield 19, 3) := by decide +kernel
theorem dX3_misplaced_17 : decode cX3_misplaced 17 = .ok (.iload_n 2, 1) := by decide +kernel
theorem dX3_misplaced_18 : decode cX3_misplaced 18 = .ok (.iaload, 1) := by decide +kernel
theorem dX3_misplaced_19 : decode cX3_misplaced 19 = .ok (.invokevirtual 125, 3) := by decide +kernel
theorem dX3_misplaced_22 : decode cX3_misplaced 22 = .ok (.istore_n 3, 1) := by decide +kernel
theorem dX3_misplaced_23 : decode cX3_misplaced 23 = .ok (.iconst 0, 1) := by decide +kernel
theorem dX3_misplaced_24 : decode cX3_misplaced 24 = .ok (.istore 4, 2) := by decide +kernel
theorem dX3_misplaced_26 : decode cX3_misplaced 26 = .ok (.iload 4, 2) := by decide +kernel
theorem dX3_misplaced_28 : decode cX3_misplaced 28 = .ok (.aload_n 0, 1) := by decide +kernel
theorem dX3_misplaced_29 : decode cX3_misplaced 29 = .ok (.getfield 15, 3) := by decide +kernel
theorem dX3_misplaced_32 : decode cX3_misplaced 32 = .ok (.if_icmp .ge 45, 3) := by decide +kernel
theorem dX3_misplaced_35 : decode cX3_misplaced 35 = .ok (.aload_n 0, 1) := by decide +kernel
theorem dX3_misplaced_36 : decode cX3_misplaced 36 = .ok (.getfield 11, 3) := by decide +kernel
theorem dX3_misplaced_39 : decode cX3_misplaced 39 = .ok (.iload 4, 2) := by decide +kernel
theorem dX3_misplaced_41 : decode cX3_misplaced 41 = .ok (.aaload, 1) := by decide +kernel
theorem dX3_misplaced_42 : decode cX3_misplaced 42 = .ok (.getfield 113, 3) := by decide +kernel
theorem dX3_misplaced_45 : decode cX3_misplaced 45 = .ok (.iload_n 2, 1) := by decide +kernel
theorem dX3_misplaced_46 : decode cX3_misplaced 46 = .ok (.laload, 1) := by decide +kernel
theorem dX3_misplaced_47 : decode cX3_misplaced 47 = .ok (.ldc2_w 107, 3) := by decide +kernel
theorem dX3_misplaced_50 : decode cX3_misplaced 50 = .ok (.lcmp, 1) := by decide +kernel
theorem dX3_misplaced_51 : decode cX3_misplaced 51 = .ok (.ifCond .eq 20, 3) := by decide +kernel
theorem dX3_misplaced_54 : decode cX3_misplaced 54 = .ok (.aload_n 0, 1) := by decide +kernel
theorem dX3_misplaced_55 : decode cX3_misplaced 55 = .ok (.getfield 11, 3) := by decide +kernel
theorem dX3_misplaced_58 : decode cX3_misplaced 58 = .ok (.iload 4, 2) := by decide +kernel
theorem dX3_misplaced_60 : decode cX3_misplaced 60 = .ok (.aaload, 1) := by decide +kernel
theorem dX3_misplaced_61 : decode cX3_misplaced 61 = .ok (.getfield 135, 3) := by decide +kernel
theorem dX3_misplaced_64 : decode cX3_misplaced 64 = .ok (.iload_n 3, 1) := by decide +kernel
theorem dX3_misplaced_65 : decode cX3_misplaced 65 = .ok (.if_icmp .eq 6, 3) := by decide +kernel
theorem dX3_misplaced_68 : decode cX3_misplaced 68 = .ok (.iinc 1 1, 3) := by decide +kernel
theorem dX3_misplaced_71 : decode cX3_misplaced 71 = .ok (.iinc 4 1, 3) := by decide +kernel
theorem dX3_misplaced_74 : decode cX3_misplaced 74 = .ok (.goto (-48), 3) := by decide +kernel
theorem dX3_misplaced_77 : decode cX3_misplaced 77 = .ok (.iinc 2 1, 3) := by decide +kernel
theorem dX3_misplaced_80 : decode cX3_misplaced 80 = .ok (.goto (-76), 3) := by decide +kernel
theorem dX3_misplaced_83 : decode cX3_misplaced 83 = .ok (.iload_n 1, 1) := by decide +kernel
theorem dX3_misplaced_84 : decode cX3_misplaced 84 = .ok (.ireturn, 1) := by decide +kernel
theorem dX3_isId_0 : decode cX3_isId 0 = .ok (.iload_n 0, 1) := by decide +kernel
theorem dX3_isId_1 : decode cX3_isId 1 = .ok (.ifCond .lt 14, 3) := by decide +kernel
theorem dX3_isId_4 : decode cX3_isId 4 = .ok (.iload_n 0, 1) := by decide +kernel
theorem dX3_isId_5 : decode cX3_isId 5 = .ok (.sipush 256, 3) := by decide +kernel
theorem dX3_isId_8 : decode cX3_isId 8 = .ok (.if_icmp .ge 7, 3) := by decide +kernel
theorem dX3_isId_11 : decode cX3_isId 11 = .ok (.iconst 1, 1) := by decide +kernel
theorem dX3_isId_12 : decode cX3_isId 12 = .ok (.goto 4, 3) := by decide +kernel
theorem dX3_isId_15 : decode cX3_isId 15 = .ok (.iconst 0, 1) := by decide +kernel
theorem dX3_isId_16 : decode cX3_isId 16 = .ok (.ireturn, 1) := by decide +kernel
theorem dX3_isFinger_0 : decode cX3_isFinger 0 = .ok (.iload_n 0, 1) := by decide +kernel
theorem dX3_isFinger_1 : decode cX3_isFinger 1 = .ok (.ifCond .lt 13, 3) := by decide +kernel
theorem dX3_isFinger_4 : decode cX3_isFinger 4 = .ok (.iload_n 0, 1) := by decide +kernel
theorem dX3_isFinger_5 : decode cX3_isFinger 5 = .ok (.bipush 8, 2) := by decide +kernel
theorem dX3_isFinger_7 : decode cX3_isFinger 7 = .ok (.if_icmp .ge 7, 3) := by decide +kernel
theorem dX3_isFinger_10 : decode cX3_isFinger 10 = .ok (.iconst 1, 1) := by decide +kernel
theorem dX3_isFinger_11 : decode cX3_isFinger 11 = .ok (.goto 4, 3) := by decide +kernel
theorem dX3_isFinger_14 : decode cX3_isFinger 14 = .ok (.iconst 0, 1) := by decide +kernel
theorem dX3_isFinger_15 : decode cX3_isFinger 15 = .ok (.ireturn, 1) := by decide +kernel
theorem dX3_fingerStart_0 : decode cX3_fingerStart 0 = .ok (.iload_n 0, 1) := by decide +kernel
theorem dX3_fingerStart_1 : decode cX3_fingerStart 1 = .ok (.iconst 1, 1) := by decide +kernel
theorem dX3_fingerStart_2 : decode cX3_fingerStart 2 = .ok (.iload_n 1, 1) := by decide +kernel
theorem dX3_fingerStart_3 : decode cX3_fingerStart 3 = .ok (.ishl, 1) := by decide +kernel
theorem dX3_fingerStart_4 : decode cX3_fingerStart 4 = .ok (.iadd, 1) := by decide +kernel
theorem dX3_fingerStart_5 : decode cX3_fingerStart 5 = .ok (.sipush 255, 3) := by decide +kernel
theorem dX3_fingerStart_8 : decode cX3_fingerStart 8 = .ok (.iand, 1) := by decide +kernel
theorem dX3_fingerStart_9 : decode cX3_fingerStart 9 = .ok (.ireturn, 1) := by decide +kernel
theorem dX3_stepsUp_0 : decode cX3_stepsUp 0 = .ok (.iload_n 1, 1) := by decide +kernel
theorem dX3_stepsUp_1 : decode cX3_stepsUp 1 = .ok (.iload_n 0, 1) := by decide +kernel
theorem dX3_stepsUp_2 : decode cX3_stepsUp 2 = .ok (.isub, 1) := by decide +kernel
theorem dX3_stepsUp_3 : decode cX3_stepsUp 3 = .ok (.iconst 1, 1) := by decide +kernel
theorem dX3_stepsUp_4 : decode cX3_stepsUp 4 = .ok (.isub, 1) := by decide +kernel
theorem dX3_stepsUp_5 : decode cX3_stepsUp 5 = .ok (.sipush 255, 3) := by decide +kernel
theorem dX3_stepsUp_8 : decode cX3_stepsUp 8 = .ok (.iand, 1) := by decide +kernel
theorem dX3_stepsUp_9 : decode cX3_stepsUp 9 = .ok (.iconst 1, 1) := by decide +kernel
theorem dX3_stepsUp_10 : decode cX3_stepsUp 10 = .ok (.iadd, 1) := by decide +kernel
theorem dX3_stepsUp_11 : decode cX3_stepsUp 11 = .ok (.ireturn, 1) := by decide +kernel
theorem dX3_isPastUpTo_0 : decode cX3_isPastUpTo 0 = .ok (.iload_n 0, 1) := by decide +kernel
theorem dX3_isPastUpTo_1 : decode cX3_isPastUpTo 1 = .ok (.iload_n 2, 1) := by decide +kernel
theorem dX3_isPastUpTo_2 : decode cX3_isPastUpTo 2 = .ok (.invokestatic 138, 3) := by decide +kernel
theorem dX3_isPastUpTo_5 : decode cX3_isPastUpTo 5 = .ok (.iload_n 0, 1) := by decide +kernel
theorem dX3_isPastUpTo_6 : decode cX3_isPastUpTo 6 = .ok (.iload_n 1, 1) := by decide +kernel
theorem dX3_isPastUpTo_7 : decode cX3_isPastUpTo 7 = .ok (.invokestatic 138, 3) := by decide +kernel
theorem dX3_isPastUpTo_10 : decode cX3_isPastUpTo 10 = .ok (.if_icmp .gt 7, 3) := by decide +kernel
theorem dX3_isPastUpTo_13 : decode cX3_isPastUpTo 13 = .ok (.iconst 1, 1) := by decide +kernel
theorem dX3_isPastUpTo_14 : decode cX3_isPastUpTo 14 = .ok (.goto 4, 3) := by decide +kernel
theorem dX3_isPastUpTo_17 : decode cX3_isPastUpTo 17 = .ok (.iconst 0, 1) := by decide +kernel
theorem dX3_isPastUpTo_18 : decode cX3_isPastUpTo 18 = .ok (.ireturn, 1) := by decide +kernel
theorem dX3_isBetween_0 : decode cX3_isBetween 0 = .ok (.iload_n 0, 1) := by decide +kernel
theorem dX3_isBetween_1 : decode cX3_isBetween 1 = .ok (.iload_n 2, 1) := by decide +kernel
theorem dX3_isBetween_2 : decode cX3_isBetween 2 = .ok (.invokestatic 138, 3) := by decide +kernel
theorem dX3_isBetween_5 : decode cX3_isBetween 5 = .ok (.iload_n 0, 1) := by decide +kernel
theorem dX3_isBetween_6 : decode cX3_isBetween 6 = .ok (.iload_n 1, 1) := by decide +kernel
theorem dX3_isBetween_7 : decode cX3_isBetween 7 = .ok (.invokestatic 138, 3) := by decide +kernel
theorem dX3_isBetween_10 : decode cX3_isBetween 10 = .ok (.if_icmp .ge 7, 3) := by decide +kernel
theorem dX3_isBetween_13 : decode cX3_isBetween 13 = .ok (.iconst 1, 1) := by decide +kernel
theorem dX3_isBetween_14 : decode cX3_isBetween 14 = .ok (.goto 4, 3) := by decide +kernel
theorem dX3_isBetween_17 : decode cX3_isBetween 17 = .ok (.iconst 0, 1) := by decide +kernel
theorem dX3_isBetween_18 : decode cX3_isBetween 18 = .ok (.ireturn, 1) := by decide +kernel
theorem dX3_addNode_0 : decode cX3_addNode 0 = .ok (.new 9, 3) := by decide +kernel
theorem dX3_addNode_3 : decode cX3_addNode 3 = .ok (.dup, 1) := by decide +kernel
theorem dX3_addNode_4 : decode cX3_addNode 4 = .ok (.iload_n 1, 1) := by decide +kernel
theorem dX3_addNode_5 : decode cX3_addNode 5 = .ok (.invokespecial 141, 3) := by decide +kernel
theorem dX3_addNode_8 : decode cX3_addNode 8 = .ok (.astore_n 2, 1) := by decide +kernel
theorem dX3_addNode_9 : decode cX3_addNode 9 = .ok (.aload_n 0, 1) := by decide +kernel
theorem dX3_addNode_10 : decode cX3_addNode 10 = .ok (.getfield 15, 3) := by decide +kernel
theorem dX3_addNode_13 : decode cX3_addNode 13 = .ok (.bipush 12, 2) := by decide +kernel
theorem dX3_addNode_15 : decode cX3_addNode 15 = .ok (.if_icmp .ge 23, 3) := by decide +kernel
theorem dX3_addNode_18 : decode cX3_addNode 18 = .ok (.aload_n 0, 1) := by decide +kernel
theorem dX3_addNode_19 : decode cX3_addNode 19 = .ok (.getfield 11, 3) := by decide +kernel
theorem dX3_addNode_22 : decode cX3_addNode 22 = .ok (.aload_n 0, 1) := by decide +kernel
theorem dX3_addNode_23 : decode cX3_addNode 23 = .ok (.getfield 15, 3) := by decide +kernel
theorem dX3_addNode_26 : decode cX3_addNode 26 = .ok (.aload_n 2, 1) := by decide +kernel
theorem dX3_addNode_27 : decode cX3_addNode 27 = .ok (.aastore, 1) := by decide +kernel
theorem dX3_addNode_28 : decode cX3_addNode 28 = .ok (.aload_n 0, 1) := by decide +kernel
theorem dX3_addNode_29 : decode cX3_addNode 29 = .ok (.dup, 1) := by decide +kernel
theorem dX3_addNode_30 : decode cX3_addNode 30 = .ok (.getfield 15, 3) := by decide +kernel
theorem dX3_addNode_33 : decode cX3_addNode 33 = .ok (.iconst 1, 1) := by decide +kernel
theorem dX3_addNode_34 : decode cX3_addNode 34 = .ok (.iadd, 1) := by decide +kernel
theorem dX3_addNode_35 : decode cX3_addNode 35 = .ok (.putfield 15, 3) := by decide +kernel
theorem dX3_addNode_38 : decode cX3_addNode 38 = .ok (.aload_n 2, 1) := by decide +kernel
theorem dX3_addNode_39 : decode cX3_addNode 39 = .ok (.areturn, 1) := by decide +kernel
theorem dX3_nodeWith_0 : decode cX3_nodeWith 0 = .ok (.iconst 0, 1) := by decide +kernel
theorem dX3_nodeWith_1 : decode cX3_nodeWith 1 = .ok (.istore_n 2, 1) := by decide +kernel
theorem dX3_nodeWith_2 : decode cX3_nodeWith 2 = .ok (.iload_n 2, 1) := by decide +kernel
theorem dX3_nodeWith_3 : decode cX3_nodeWith 3 = .ok (.aload_n 0, 1) := by decide +kernel
theorem dX3_nodeWith_4 : decode cX3_nodeWith 4 = .ok (.getfield 15, 3) := by decide +kernel
theorem dX3_nodeWith_7 : decode cX3_nodeWith 7 = .ok (.if_icmp .ge 29, 3) := by decide +kernel
theorem dX3_nodeWith_10 : decode cX3_nodeWith 10 = .ok (.aload_n 0, 1) := by decide +kernel
theorem dX3_nodeWith_11 : decode cX3_nodeWith 11 = .ok (.getfield 11, 3) := by decide +kernel
theorem dX3_nodeWith_14 : decode cX3_nodeWith 14 = .ok (.iload_n 2, 1) := by decide +kernel
theorem dX3_nodeWith_15 : decode cX3_nodeWith 15 = .ok (.aaload, 1) := by decide +kernel
theorem dX3_nodeWith_16 : decode cX3_nodeWith 16 = .ok (.getfield 135, 3) := by decide +kernel
theorem dX3_nodeWith_19 : decode cX3_nodeWith 19 = .ok (.iload_n 1, 1) := by decide +kernel
theorem dX3_nodeWith_20 : decode cX3_nodeWith 20 = .ok (.if_icmp .ne 10, 3) := by decide +kernel
theorem dX3_nodeWith_23 : decode cX3_nodeWith 23 = .ok (.aload_n 0, 1) := by decide +kernel
theorem dX3_nodeWith_24 : decode cX3_nodeWith 24 = .ok (.getfield 11, 3) := by decide +kernel
theorem dX3_nodeWith_27 : decode cX3_nodeWith 27 = .ok (.iload_n 2, 1) := by decide +kernel
theorem dX3_nodeWith_28 : decode cX3_nodeWith 28 = .ok (.aaload, 1) := by decide +kernel
theorem dX3_nodeWith_29 : decode cX3_nodeWith 29 = .ok (.areturn, 1) := by decide +kernel
theorem dX3_nodeWith_30 : decode cX3_nodeWith 30 = .ok (.iinc 2 1, 3) := by decide +kernel
theorem dX3_nodeWith_33 : decode cX3_nodeWith 33 = .ok (.goto (-31), 3) := by decide +kernel
theorem dX3_nodeWith_36 : decode cX3_nodeWith 36 = .ok (.aconst_null, 1) := by decide +kernel
theorem dX3_nodeWith_37 : decode cX3_nodeWith 37 = .ok (.areturn, 1) := by decide +kernel
theorem dX3_memberWith_0 : decode cX3_memberWith 0 = .ok (.aload_n 0, 1) := by decide +kernel
theorem dX3_memberWith_1 : decode cX3_memberWith 1 = .ok (.iload_n 1, 1) := by decide +kernel
theorem dX3_memberWith_2 : decode cX3_memberWith 2 = .ok (.invokevirtual 44, 3) := by decide +kernel
theorem dX3_memberWith_5 : decode cX3_memberWith 5 = .ok (.astore_n 2, 1) := by decide +kernel
theorem dX3_memberWith_6 : decode cX3_memberWith 6 = .ok (.aload_n 2, 1) := by decide +kernel
theorem dX3_memberWith_7 : decode cX3_memberWith 7 = .ok (.ifnull 14, 3) := by decide +kernel
theorem dX3_memberWith_10 : decode cX3_memberWith 10 = .ok (.aload_n 2, 1) := by decide +kernel
theorem dX3_memberWith_11 : decode cX3_memberWith 11 = .ok (.invokevirtual 128, 3) := by decide +kernel
theorem dX3_memberWith_14 : decode cX3_memberWith 14 = .ok (.ifCond .eq 7, 3) := by decide +kernel
theorem dX3_memberWith_17 : decode cX3_memberWith 17 = .ok (.aload_n 2, 1) := by decide +kernel
theorem dX3_memberWith_18 : decode cX3_memberWith 18 = .ok (.goto 4, 3) := by decide +kernel
theorem dX3_memberWith_21 : decode cX3_memberWith 21 = .ok (.aconst_null, 1) := by decide +kernel
theorem dX3_memberWith_22 : decode cX3_memberWith 22 = .ok (.areturn, 1) := by decide +kernel
theorem dX3_firstUpFrom_0 : decode cX3_firstUpFrom 0 = .ok (.iconst (-1), 1) := by decide +kernel
theorem dX3_firstUpFrom_1 : decode cX3_firstUpFrom 1 = .ok (.istore_n 2, 1) := by decide +kernel
theorem dX3_firstUpFrom_2 : decode cX3_firstUpFrom 2 = .ok (.iconst 0, 1) := by decide +kernel
theorem dX3_firstUpFrom_3 : decode cX3_firstUpFrom 3 = .ok (.istore_n 3, 1) := by decide +kernel
theorem dX3_firstUpFrom_4 : decode cX3_firstUpFrom 4 = .ok (.iload_n 3, 1) := by decide +kernel
theorem dX3_firstUpFrom_5 : decode cX3_firstUpFrom 5 = .ok (.aload_n 0, 1) := by decide +kernel
theorem dX3_firstUpFrom_6 : decode cX3_firstUpFrom 6 = .ok (.getfield 15, 3) := by decide +kernel
theorem dX3_firstUpFrom_9 : decode cX3_firstUpFrom 9 = .ok (.if_icmp .ge 58, 3) := by decide +kernel
theorem dX3_firstUpFrom_12 : decode cX3_firstUpFrom 12 = .ok (.aload_n 0, 1) := by decide +kernel
theorem dX3_firstUpFrom_13 : decode cX3_firstUpFrom 13 = .ok (.getfield 11, 3) := by decide +kernel
theorem dX3_firstUpFrom_16 : decode cX3_firstUpFrom 16 = .ok (.iload_n 3, 1) := by decide +kernel
theorem dX3_firstUpFrom_17 : decode cX3_firstUpFrom 17 = .ok (.aaload, 1) := by decide +kernel
theorem dX3_firstUpFrom_18 : decode cX3_firstUpFrom 18 = .ok (.getfield 135, 3) := by decide +kernel
theorem dX3_firstUpFrom_21 : decode cX3_firstUpFrom 21 = .ok (.istore 4, 2) := by decide +kernel
theorem dX3_firstUpFrom_23 : decode cX3_firstUpFrom 23 = .ok (.aload_n 0, 1) := by decide +kernel
theorem dX3_firstUpFrom_24 : decode cX3_firstUpFrom 24 = .ok (.getfield 11, 3) := by decide +kernel
theorem dX3_firstUpFrom_27 : decode cX3_firstUpFrom 27 = .ok (.iload_n 3, 1) := by decide +kernel
theorem dX3_firstUpFrom_28 : decode cX3_firstUpFrom 28 = .ok (.aaload, 1) := by decide +kernel
theorem dX3_firstUpFrom_29 : decode cX3_firstUpFrom 29 = .ok (.invokevirtual 128, 3) := by decide +kernel
theorem dX3_firstUpFrom_32 : decode cX3_firstUpFrom 32 = .ok (.ifCond .eq 29, 3) := by decide +kernel
theorem dX3_firstUpFrom_35 : decode cX3_firstUpFrom 35 = .ok (.iload_n 2, 1) := by decide +kernel
theorem dX3_firstUpFrom_36 : decode cX3_firstUpFrom 36 = .ok (.iconst (-1), 1) := by decide +kernel
theorem dX3_firstUpFrom_37 : decode cX3_firstUpFrom 37 = .ok (.if_icmp .eq 21, 3) := by decide +kernel
theorem dX3_firstUpFrom_40 : decode cX3_firstUpFrom 40 = .ok (.iload_n 1, 1) := by decide +kernel
theorem dX3_firstUpFrom_41 : decode cX3_firstUpFrom 41 = .ok (.iconst 1, 1) := by decide +kernel
theorem dX3_firstUpFrom_42 : decode cX3_firstUpFrom 42 = .ok (.isub, 1) := by decide +kernel
theorem dX3_firstUpFrom_43 : decode cX3_firstUpFrom 43 = .ok (.iload 4, 2) := by decide +kernel
theorem dX3_firstUpFrom_45 : decode cX3_firstUpFrom 45 = .ok (.invokestatic 138, 3) := by decide +kernel
theorem dX3_firstUpFrom_48 : decode cX3_firstUpFrom 48 = .ok (.iload_n 1, 1) := by decide +kernel
theorem dX3_firstUpFrom_49 : decode cX3_firstUpFrom 49 = .ok (.iconst 1, 1) := by decide +kernel
theorem dX3_firstUpFrom_50 : decode cX3_firstUpFrom 50 = .ok (.isub, 1) := by decide +kernel
theorem dX3_firstUpFrom_51 : decode cX3_firstUpFrom 51 = .ok (.iload_n 2, 1) := by decide +kernel
theorem dX3_firstUpFrom_52 : decode cX3_firstUpFrom 52 = .ok (.invokestatic 138, 3) := by decide +kernel
theorem dX3_firstUpFrom_55 : decode cX3_firstUpFrom 55 = .ok (.if_icmp .ge 6, 3) := by decide +kernel
theorem dX3_firstUpFrom_58 : decode cX3_firstUpFrom 58 = .ok (.iload 4, 2) := by decide +kernel
theorem dX3_firstUpFrom_60 : decode cX3_firstUpFrom 60 = .ok (.istore_n 2, 1) := by decide +kernel
theorem dX3_firstUpFrom_61 : decode cX3_firstUpFrom 61 = .ok (.iinc 3 1, 3) := by decide +kernel
theorem dX3_firstUpFrom_64 : decode cX3_firstUpFrom 64 = .ok (.goto (-60), 3) := by decide +kernel
theorem dX3_firstUpFrom_67 : decode cX3_firstUpFrom 67 = .ok (.iload_n 2, 1) := by decide +kernel
theorem dX3_firstUpFrom_68 : decode cX3_firstUpFrom 68 = .ok (.ireturn, 1) := by decide +kernel
theorem dX3_firstDownFrom_0 : decode cX3_firstDownFrom 0 = .ok (.iconst (-1), 1) := by decide +kernel
theorem dX3_firstDownFrom_1 : decode cX3_firstDownFrom 1 = .ok (.istore_n 2, 1) := by decide +kernel
theorem dX3_firstDownFrom_2 : decode cX3_firstDownFrom 2 = .ok (.iconst 0, 1) := by decide +kernel
theorem dX3_firstDownFrom_3 : decode cX3_firstDownFrom 3 = .ok (.istore_n 3, 1) := by decide +kernel
theorem dX3_firstDownFrom_4 : decode cX3_firstDownFrom 4 = .ok (.iload_n 3, 1) := by decide +kernel
theorem dX3_firstDownFrom_5 : decode cX3_firstDownFrom 5 = .ok (.aload_n 0, 1) := by decide +kernel
theorem dX3_firstDownFrom_6 : decode cX3_firstDownFrom 6 = .ok (.getfield 15, 3) := by decide +kernel
theorem dX3_firstDownFrom_9 : decode cX3_firstDownFrom 9 = .ok (.if_icmp .ge 58, 3) := by decide +kernel
theorem dX3_firstDownFrom_12 : decode cX3_firstDownFrom 12 = .ok (.aload_n 0, 1) := by decide +kernel
theorem dX3_firstDownFrom_13 : decode cX3_firstDownFrom 13 = .ok (.getfield 11, 3) := by decide +kernel
theorem dX3_firstDownFrom_16 : decode cX3_firstDownFrom 16 = .ok (.iload_n 3, 1) := by decide +kernel
theorem dX3_firstDownFrom_17 : decode cX3_firstDownFrom 17 = .ok (.aaload, 1) := by decide +kernel
theorem dX3_firstDownFrom_18 : decode cX3_firstDownFrom 18 = .ok (.getfield 135, 3) := by decide +kernel
theorem dX3_firstDownFrom_21 : decode cX3_firstDownFrom 21 = .ok (.istore 4, 2) := by decide +kernel
theorem dX3_firstDownFrom_23 : decode cX3_firstDownFrom 23 = .ok (.aload_n 0, 1) := by decide +kernel
theorem dX3_firstDownFrom_24 : decode cX3_firstDownFrom 24 = .ok (.getfield 11, 3) := by decide +kernel
theorem dX3_firstDownFrom_27 : decode cX3_firstDownFrom 27 = .ok (.iload_n 3, 1) := by decide +kernel
theorem dX3_firstDownFrom_28 : decode cX3_firstDownFrom 28 = .ok (.aaload, 1) := by decide +kernel
theorem dX3_firstDownFrom_29 : decode cX3_firstDownFrom 29 = .ok (.invokevirtual 128, 3) := by decide +kernel
theorem dX3_firstDownFrom_32 : decode cX3_firstDownFrom 32 = .ok (.ifCond .eq 29, 3) := by decide +kernel
theorem dX3_firstDownFrom_35 : decode cX3_firstDownFrom 35 = .ok (.iload_n 2, 1) := by decide +kernel
theorem dX3_firstDownFrom_36 : decode cX3_firstDownFrom 36 = .ok (.iconst (-1), 1) := by decide +kernel
theorem dX3_firstDownFrom_37 : decode cX3_firstDownFrom 37 = .ok (.if_icmp .eq 21, 3) := by decide +kernel
theorem dX3_firstDownFrom_40 : decode cX3_firstDownFrom 40 = .ok (.iload 4, 2) := by decide +kernel
theorem dX3_firstDownFrom_42 : decode cX3_firstDownFrom 42 = .ok (.iload_n 1, 1) := by decide +kernel
theorem dX3_firstDownFrom_43 : decode cX3_firstDownFrom 43 = .ok (.iconst 1, 1) := by decide +kernel
theorem dX3_firstDownFrom_44 : decode cX3_firstDownFrom 44 = .ok (.iadd, 1) := by decide +kernel
theorem dX3_firstDownFrom_45 : decode cX3_firstDownFrom 45 = .ok (.invokestatic 138, 3) := by decide +kernel
theorem dX3_firstDownFrom_48 : decode cX3_firstDownFrom 48 = .ok (.iload_n 2, 1) := by decide +kernel
theorem dX3_firstDownFrom_49 : decode cX3_firstDownFrom 49 = .ok (.iload_n 1, 1) := by decide +kernel
theorem dX3_firstDownFrom_50 : decode cX3_firstDownFrom 50 = .ok (.iconst 1, 1) := by decide +kernel
theorem dX3_firstDownFrom_51 : decode cX3_firstDownFrom 51 = .ok (.iadd, 1) := by decide +kernel
theorem dX3_firstDownFrom_52 : decode cX3_firstDownFrom 52 = .ok (.invokestatic 138, 3) := by decide +kernel
theorem dX3_firstDownFrom_55 : decode cX3_firstDownFrom 55 = .ok (.if_icmp .ge 6, 3) := by decide +kernel
theorem dX3_firstDownFrom_58 : decode cX3_firstDownFrom 58 = .ok (.iload 4, 2) := by decide +kernel
theorem dX3_firstDownFrom_60 : decode cX3_firstDownFrom 60 = .ok (.istore_n 2, 1) := by decide +kernel
theorem dX3_firstDownFrom_61 : decode cX3_firstDownFrom 61 = .ok (.iinc 3 1, 3) := by decide +kernel
theorem dX3_firstDownFrom_64 : decode cX3_firstDownFrom 64 = .ok (.goto (-60), 3) := by decide +kernel
theorem dX3_firstDownFrom_67 : decode cX3_firstDownFrom 67 = .ok (.iload_n 2, 1) := by decide +kernel
theorem dX3_firstDownFrom_68 : decode cX3_firstDownFrom 68 = .ok (.ireturn, 1) := by decide +kernel
theorem dX3_wrongPointers_0 : decode cX3_wrongPointers 0 = .ok (.iconst 0, 1) := by decide +kernel
theorem dX3_wrongPointers_1 : decode cX3_wrongPointers 1 = .ok (.istore_n 2, 1) := by decide +kernel
theorem dX3_wrongPointers_2 : decode cX3_wrongPointers 2 = .ok (.aload_n 1, 1) := by decide +kernel
theorem dX3_wrongPointers_3 : decode cX3_wrongPointers 3 = .ok (.getfield 41, 3) := by decide +kernel
theorem dX3_wrongPointers_6 : decode cX3_wrongPointers 6 = .ok (.aload_n 0, 1) := by decide +kernel
theorem dX3_wrongPointers_7 : decode cX3_wrongPointers 7 = .ok (.aload_n 1, 1) := by decide +kernel
theorem dX3_wrongPointers_8 : decode cX3_wrongPointers 8 = .ok (.getfield 135, 3) := by decide +kernel
theorem dX3_wrongPointers_11 : decode cX3_wrongPointers 11 = .ok (.iconst 1, 1) := by decide +kernel
theorem dX3_wrongPointers_12 : decode cX3_wrongPointers 12 = .ok (.iadd, 1) := by decide +kernel
theorem dX3_wrongPointers_13 : decode cX3_wrongPointers 13 = .ok (.invokevirtual 125, 3) := by decide +kernel
theorem dX3_wrongPointers_16 : decode cX3_wrongPointers 16 = .ok (.if_icmp .eq 6, 3) := by decide +kernel
theorem dX3_wrongPointers_19 : decode cX3_wrongPointers 19 = .ok (.iinc 2 1, 3) := by decide +kernel
theorem dX3_wrongPointers_22 : decode cX3_wrongPointers 22 = .ok (.aload_n 1, 1) := by decide +kernel
theorem dX3_wrongPointers_23 : decode cX3_wrongPointers 23 = .ok (.getfield 101, 3) := by decide +kernel
theorem dX3_wrongPointers_26 : decode cX3_wrongPointers 26 = .ok (.aload_n 0, 1) := by decide +kernel
theorem dX3_wrongPointers_27 : decode cX3_wrongPointers 27 = .ok (.aload_n 1, 1) := by decide +kernel
theorem dX3_wrongPointers_28 : decode cX3_wrongPointers 28 = .ok (.getfield 135, 3) := by decide +kernel
theorem dX3_wrongPointers_31 : decode cX3_wrongPointers 31 = .ok (.iconst 1, 1) := by decide +kernel
theorem dX3_wrongPointers_32 : decode cX3_wrongPointers 32 = .ok (.isub, 1) := by decide +kernel
theorem dX3_wrongPointers_33 : decode cX3_wrongPointers 33 = .ok (.invokevirtual 144, 3) := by decide +kernel
theorem dX3_wrongPointers_36 : decode cX3_wrongPointers 36 = .ok (.if_icmp .eq 6, 3) := by decide +kernel
theorem dX3_wrongPointers_39 : decode cX3_wrongPointers 39 = .ok (.iinc 2 1, 3) := by decide +kernel
theorem dX3_wrongPointers_42 : decode cX3_wrongPointers 42 = .ok (.iconst 0, 1) := by decide +kernel
theorem dX3_wrongPointers_43 : decode cX3_wrongPointers 43 = .ok (.istore_n 3, 1) := by decide +kernel
theorem dX3_wrongPointers_44 : decode cX3_wrongPointers 44 = .ok (.iload_n 3, 1) := by decide +kernel
theorem dX3_wrongPointers_45 : decode cX3_wrongPointers 45 = .ok (.bipush 8, 2) := by decide +kernel
theorem dX3_wrongPointers_47 : decode cX3_wrongPointers 47 = .ok (.if_icmp .ge 33, 3) := by decide +kernel
theorem dX3_wrongPointers_50 : decode cX3_wrongPointers 50 = .ok (.aload_n 1, 1) := by decide +kernel
theorem dX3_wrongPointers_51 : decode cX3_wrongPointers 51 = .ok (.getfield 104, 3) := by decide +kernel
theorem dX3_wrongPointers_54 : decode cX3_wrongPointers 54 = .ok (.iload_n 3, 1) := by decide +kernel
theorem dX3_wrongPointers_55 : decode cX3_wrongPointers 55 = .ok (.iaload, 1) := by decide +kernel
theorem dX3_wrongPointers_56 : decode cX3_wrongPointers 56 = .ok (.aload_n 0, 1) := by decide +kernel
theorem dX3_wrongPointers_57 : decode cX3_wrongPointers 57 = .ok (.aload_n 1, 1) := by decide +kernel
theorem dX3_wrongPointers_58 : decode cX3_wrongPointers 58 = .ok (.getfield 135, 3) := by decide +kernel
theorem dX3_wrongPointers_61 : decode cX3_wrongPointers 61 = .ok (.iload_n 3, 1) := by decide +kernel
theorem dX3_wrongPointers_62 : decode cX3_wrongPointers 62 = .ok (.invokestatic 70, 3) := by decide +kernel
theorem dX3_wrongPointers_65 : decode cX3_wrongPointers 65 = .ok (.invokevirtual 125, 3) := by decide +kernel
theorem dX3_wrongPointers_68 : decode cX3_wrongPointers 68 = .ok (.if_icmp .eq 6, 3) := by decide +kernel
theorem dX3_wrongPointers_71 : decode cX3_wrongPointers 71 = .ok (.iinc 2 1, 3) := by decide +kernel
theorem dX3_wrongPointers_74 : decode cX3_wrongPointers 74 = .ok (.iinc 3 1, 3) := by decide +kernel
theorem dX3_wrongPointers_77 : decode cX3_wrongPointers 77 = .ok (.goto (-33), 3) := by decide +kernel
theorem dX3_wrongPointers_80 : decode cX3_wrongPointers 80 = .ok (.iload_n 2, 1) := by decide +kernel
theorem dX3_wrongPointers_81 : decode cX3_wrongPointers 81 = .ok (.ireturn, 1) := by decide +kernel
theorem dX3_slotOf_0 : decode cX3_slotOf 0 = .ok (.iconst 0, 1) := by decide +kernel
theorem dX3_slotOf_1 : decode cX3_slotOf 1 = .ok (.istore_n 2, 1) := by decide +kernel
theorem dX3_slotOf_2 : decode cX3_slotOf 2 = .ok (.iload_n 2, 1) := by decide +kernel
theorem dX3_slotOf_3 : decode cX3_slotOf 3 = .ok (.aload_n 0, 1) := by decide +kernel
theorem dX3_slotOf_4 : decode cX3_slotOf 4 = .ok (.getfield 23, 3) := by decide +kernel
theorem dX3_slotOf_7 : decode cX3_slotOf 7 = .ok (.if_icmp .ge 21, 3) := by decide +kernel
theorem dX3_slotOf_10 : decode cX3_slotOf 10 = .ok (.aload_n 0, 1) := by decide +kernel
theorem dX3_slotOf_11 : decode cX3_slotOf 11 = .ok (.getfield 19, 3) := by decide +kernel
theorem dX3_slotOf_14 : decode cX3_slotOf 14 = .ok (.iload_n 2, 1) := by decide +kernel
theorem dX3_slotOf_15 : decode cX3_slotOf 15 = .ok (.iaload, 1) := by decide +kernel
theorem dX3_slotOf_16 : decode cX3_slotOf 16 = .ok (.iload_n 1, 1) := by decide +kernel
theorem dX3_slotOf_17 : decode cX3_slotOf 17 = .ok (.if_icmp .ne 5, 3) := by decide +kernel
theorem dX3_slotOf_20 : decode cX3_slotOf 20 = .ok (.iload_n 2, 1) := by decide +kernel
theorem dX3_slotOf_21 : decode cX3_slotOf 21 = .ok (.ireturn, 1) := by decide +kernel
theorem dX3_slotOf_22 : decode cX3_slotOf 22 = .ok (.iinc 2 1, 3) := by decide +kernel
theorem dX3_slotOf_25 : decode cX3_slotOf 25 = .ok (.goto (-23), 3) := by decide +kernel
theorem dX3_slotOf_28 : decode cX3_slotOf 28 = .ok (.iconst (-1), 1) := by decide +kernel
theorem dX3_slotOf_29 : decode cX3_slotOf 29 = .ok (.ireturn, 1) := by decide +kernel
theorem dX3_takeKey_0 : decode cX3_takeKey 0 = .ok (.aload_n 0, 1) := by decide +kernel
theorem dX3_takeKey_1 : decode cX3_takeKey 1 = .ok (.iload_n 1, 1) := by decide +kernel
theorem dX3_takeKey_2 : decode cX3_takeKey 2 = .ok (.invokevirtual 147, 3) := by decide +kernel
theorem dX3_takeKey_5 : decode cX3_takeKey 5 = .ok (.iconst (-1), 1) := by decide +kernel
theorem dX3_takeKey_6 : decode cX3_takeKey 6 = .ok (.if_icmp .eq 5, 3) := by decide +kernel
theorem dX3_takeKey_9 : decode cX3_takeKey 9 = .ok (.iconst 1, 1) := by decide +kernel
theorem dX3_takeKey_10 : decode cX3_takeKey 10 = .ok (.ireturn, 1) := by decide +kernel
theorem dX3_takeKey_11 : decode cX3_takeKey 11 = .ok (.aload_n 0, 1) := by decide +kernel
theorem dX3_takeKey_12 : decode cX3_takeKey 12 = .ok (.getfield 23, 3) := by decide +kernel
theorem dX3_takeKey_15 : decode cX3_takeKey 15 = .ok (.bipush 10, 2) := by decide +kernel
theorem dX3_takeKey_17 : decode cX3_takeKey 17 = .ok (.if_icmp .lt 5, 3) := by decide +kernel
theorem dX3_takeKey_20 : decode cX3_takeKey 20 = .ok (.iconst 0, 1) := by decide +kernel
theorem dX3_takeKey_21 : decode cX3_takeKey 21 = .ok (.ireturn, 1) := by decide +kernel
theorem dX3_takeKey_22 : decode cX3_takeKey 22 = .ok (.aload_n 0, 1) := by decide +kernel
theorem dX3_takeKey_23 : decode cX3_takeKey 23 = .ok (.getfield 19, 3) := by decide +kernel
theorem dX3_takeKey_26 : decode cX3_takeKey 26 = .ok (.aload_n 0, 1) := by decide +kernel
theorem dX3_takeKey_27 : decode cX3_takeKey 27 = .ok (.getfield 23, 3) := by decide +kernel
theorem dX3_takeKey_30 : decode cX3_takeKey 30 = .ok (.iload_n 1, 1) := by decide +kernel
theorem dX3_takeKey_31 : decode cX3_takeKey 31 = .ok (.iastore, 1) := by decide +kernel
theorem dX3_takeKey_32 : decode cX3_takeKey 32 = .ok (.aload_n 0, 1) := by decide +kernel
theorem dX3_takeKey_33 : decode cX3_takeKey 33 = .ok (.dup, 1) := by decide +kernel
theorem dX3_takeKey_34 : decode cX3_takeKey 34 = .ok (.getfield 23, 3) := by decide +kernel
theorem dX3_takeKey_37 : decode cX3_takeKey 37 = .ok (.iconst 1, 1) := by decide +kernel
theorem dX3_takeKey_38 : decode cX3_takeKey 38 = .ok (.iadd, 1) := by decide +kernel
theorem dX3_takeKey_39 : decode cX3_takeKey 39 = .ok (.putfield 23, 3) := by decide +kernel
theorem dX3_takeKey_42 : decode cX3_takeKey 42 = .ok (.iconst 1, 1) := by decide +kernel
theorem dX3_takeKey_43 : decode cX3_takeKey 43 = .ok (.ireturn, 1) := by decide +kernel
theorem dX3_valueAt_0 : decode cX3_valueAt 0 = .ok (.aload_n 0, 1) := by decide +kernel
theorem dX3_valueAt_1 : decode cX3_valueAt 1 = .ok (.iload_n 2, 1) := by decide +kernel
theorem dX3_valueAt_2 : decode cX3_valueAt 2 = .ok (.invokevirtual 147, 3) := by decide +kernel
theorem dX3_valueAt_5 : decode cX3_valueAt 5 = .ok (.istore_n 3, 1) := by decide +kernel
theorem dX3_valueAt_6 : decode cX3_valueAt 6 = .ok (.iload_n 3, 1) := by decide +kernel
theorem dX3_valueAt_7 : decode cX3_valueAt 7 = .ok (.iconst (-1), 1) := by decide +kernel
theorem dX3_valueAt_8 : decode cX3_valueAt 8 = .ok (.if_icmp .ne 9, 3) := by decide +kernel
theorem dX3_valueAt_11 : decode cX3_valueAt 11 = .ok (.ldc2_w 107, 3) := by decide +kernel
theorem dX3_valueAt_14 : decode cX3_valueAt 14 = .ok (.goto 9, 3) := by decide +kernel
theorem dX3_valueAt_17 : decode cX3_valueAt 17 = .ok (.aload_n 1, 1) := by decide +kernel
theorem dX3_valueAt_18 : decode cX3_valueAt 18 = .ok (.getfield 113, 3) := by decide +kernel
theorem dX3_valueAt_21 : decode cX3_valueAt 21 = .ok (.iload_n 3, 1) := by decide +kernel
theorem dX3_valueAt_22 : decode cX3_valueAt 22 = .ok (.laload, 1) := by decide +kernel
theorem dX3_valueAt_23 : decode cX3_valueAt 23 = .ok (.lreturn, 1) := by decide +kernel
theorem dX3_sendFind_0 : decode cX3_sendFind 0 = .ok (.aload_n 0, 1) := by decide +kernel
theorem dX3_sendFind_1 : decode cX3_sendFind 1 = .ok (.getfield 29, 3) := by decide +kernel
theorem dX3_sendFind_4 : decode cX3_sendFind 4 = .ok (.iconst 1, 1) := by decide +kernel
theorem dX3_sendFind_5 : decode cX3_sendFind 5 = .ok (.iload_n 1, 1) := by decide +kernel
theorem dX3_sendFind_6 : decode cX3_sendFind 6 = .ok (.invokevirtual 58, 3) := by decide +kernel
theorem dX3_sendFind_9 : decode cX3_sendFind 9 = .ok (.astore 5, 2) := by decide +kernel
theorem dX3_sendFind_11 : decode cX3_sendFind 11 = .ok (.aload 5, 2) := by decide +kernel
theorem dX3_sendFind_13 : decode cX3_sendFind 13 = .ok (.iload_n 2, 1) := by decide +kernel
theorem dX3_sendFind_14 : decode cX3_sendFind 14 = .ok (.putfield 150, 3) := by decide +kernel
theorem dX3_sendFind_17 : decode cX3_sendFind 17 = .ok (.aload 5, 2) := by decide +kernel
theorem dX3_sendFind_19 : decode cX3_sendFind 19 = .ok (.iload_n 3, 1) := by decide +kernel
theorem dX3_sendFind_20 : decode cX3_sendFind 20 = .ok (.putfield 153, 3) := by decide +kernel
theorem dX3_sendFind_23 : decode cX3_sendFind 23 = .ok (.aload 5, 2) := by decide +kernel
theorem dX3_sendFind_25 : decode cX3_sendFind 25 = .ok (.iload 4, 2) := by decide +kernel
theorem dX3_sendFind_27 : decode cX3_sendFind 27 = .ok (.putfield 156, 3) := by decide +kernel
theorem dX3_sendFind_30 : decode cX3_sendFind 30 = .ok (.aload 5, 2) := by decide +kernel
theorem dX3_sendFind_32 : decode cX3_sendFind 32 = .ok (.areturn, 1) := by decide +kernel
theorem dX3_arrive_0 : decode cX3_arrive 0 = .ok (.aload_n 0, 1) := by decide +kernel
theorem dX3_arrive_1 : decode cX3_arrive 1 = .ok (.getfield 29, 3) := by decide +kernel
theorem dX3_arrive_4 : decode cX3_arrive 4 = .ok (.iload_n 1, 1) := by decide +kernel
theorem dX3_arrive_5 : decode cX3_arrive 5 = .ok (.invokevirtual 159, 3) := by decide +kernel
theorem dX3_arrive_8 : decode cX3_arrive 8 = .ok (.astore_n 2, 1) := by decide +kernel
theorem dX3_arrive_9 : decode cX3_arrive 9 = .ok (.aload_n 2, 1) := by decide +kernel
theorem dX3_arrive_10 : decode cX3_arrive 10 = .ok (.ifnonnull 5, 3) := by decide +kernel
theorem dX3_arrive_13 : decode cX3_arrive 13 = .ok (.iconst (-1), 1) := by decide +kernel
theorem dX3_arrive_14 : decode cX3_arrive 14 = .ok (.ireturn, 1) := by decide +kernel
theorem dX3_arrive_15 : decode cX3_arrive 15 = .ok (.aload_n 0, 1) := by decide +kernel
theorem dX3_arrive_16 : decode cX3_arrive 16 = .ok (.aload_n 2, 1) := by decide +kernel
theorem dX3_arrive_17 : decode cX3_arrive 17 = .ok (.getfield 98, 3) := by decide +kernel
theorem dX3_arrive_20 : decode cX3_arrive 20 = .ok (.invokevirtual 44, 3) := by decide +kernel
theorem dX3_arrive_23 : decode cX3_arrive 23 = .ok (.astore_n 3, 1) := by decide +kernel
theorem dX3_arrive_24 : decode cX3_arrive 24 = .ok (.aload_n 3, 1) := by decide +kernel
theorem dX3_arrive_25 : decode cX3_arrive 25 = .ok (.ifnonnull 8, 3) := by decide +kernel
theorem dX3_arrive_28 : decode cX3_arrive 28 = .ok (.aload_n 2, 1) := by decide +kernel
theorem dX3_arrive_29 : decode cX3_arrive 29 = .ok (.getfield 95, 3) := by decide +kernel
theorem dX3_arrive_32 : decode cX3_arrive 32 = .ok (.ireturn, 1) := by decide +kernel
theorem dX3_arrive_33 : decode cX3_arrive 33 = .ok (.aload_n 2, 1) := by decide +kernel
theorem dX3_arrive_34 : decode cX3_arrive 34 = .ok (.getfield 95, 3) := by decide +kernel
theorem dX3_arrive_37 : decode cX3_arrive 37 = .ok (.tableswitch 116 1 7 #[43, 52, 61, 70, 79, 98, 107], 43) := by decide +kernel
theorem dX3_arrive_80 : decode cX3_arrive 80 = .ok (.aload_n 0, 1) := by decide +kernel
theorem dX3_arrive_81 : decode cX3_arrive 81 = .ok (.aload_n 3, 1) := by decide +kernel
theorem dX3_arrive_82 : decode cX3_arrive 82 = .ok (.aload_n 2, 1) := by decide +kernel
theorem dX3_arrive_83 : decode cX3_arrive 83 = .ok (.invokevirtual 162, 3) := by decide +kernel
theorem dX3_arrive_86 : decode cX3_arrive 86 = .ok (.goto 73, 3) := by decide +kernel
theorem dX3_arrive_89 : decode cX3_arrive 89 = .ok (.aload_n 0, 1) := by decide +kernel
theorem dX3_arrive_90 : decode cX3_arrive 90 = .ok (.aload_n 3, 1) := by decide +kernel
theorem dX3_arrive_91 : decode cX3_arrive 91 = .ok (.aload_n 2, 1) := by decide +kernel
theorem dX3_arrive_92 : decode cX3_arrive 92 = .ok (.invokevirtual 166, 3) := by decide +kernel
theorem dX3_arrive_95 : decode cX3_arrive 95 = .ok (.goto 64, 3) := by decide +kernel
theorem dX3_arrive_98 : decode cX3_arrive 98 = .ok (.aload_n 0, 1) := by decide +kernel
theorem dX3_arrive_99 : decode cX3_arrive 99 = .ok (.aload_n 3, 1) := by decide +kernel
theorem dX3_arrive_100 : decode cX3_arrive 100 = .ok (.aload_n 2, 1) := by decide +kernel
theorem dX3_arrive_101 : decode cX3_arrive 101 = .ok (.invokevirtual 169, 3) := by decide +kernel
theorem dX3_arrive_104 : decode cX3_arrive 104 = .ok (.goto 55, 3) := by decide +kernel
theorem dX3_arrive_107 : decode cX3_arrive 107 = .ok (.aload_n 0, 1) := by decide +kernel
theorem dX3_arrive_108 : decode cX3_arrive 108 = .ok (.aload_n 3, 1) := by decide +kernel
theorem dX3_arrive_109 : decode cX3_arrive 109 = .ok (.aload_n 2, 1) := by decide +kernel
theorem dX3_arrive_110 : decode cX3_arrive 110 = .ok (.invokevirtual 172, 3) := by decide +kernel
theorem dX3_arrive_113 : decode cX3_arrive 113 = .ok (.goto 46, 3) := by decide +kernel
theorem dX3_arrive_116 : decode cX3_arrive 116 = .ok (.aload_n 3, 1) := by decide +kernel
theorem dX3_arrive_117 : decode cX3_arrive 117 = .ok (.aload_n 2, 1) := by decide +kernel
theorem dX3_arrive_118 : decode cX3_arrive 118 = .ok (.getfield 80, 3) := by decide +kernel
theorem dX3_arrive_121 : decode cX3_arrive 121 = .ok (.putfield 119, 3) := by decide +kernel
theorem dX3_arrive_124 : decode cX3_arrive 124 = .ok (.aload_n 3, 1) := by decide +kernel
theorem dX3_arrive_125 : decode cX3_arrive 125 = .ok (.aload_n 2, 1) := by decide +kernel
theorem dX3_arrive_126 : decode cX3_arrive 126 = .ok (.getfield 175, 3) := by decide +kernel
theorem dX3_arrive_129 : decode cX3_arrive 129 = .ok (.putfield 122, 3) := by decide +kernel
theorem dX3_arrive_132 : decode cX3_arrive 132 = .ok (.goto 27, 3) := by decide +kernel
theorem dX3_arrive_135 : decode cX3_arrive 135 = .ok (.aload_n 0, 1) := by decide +kernel
theorem dX3_arrive_136 : decode cX3_arrive 136 = .ok (.aload_n 3, 1) := by decide +kernel
theorem dX3_arrive_137 : decode cX3_arrive 137 = .ok (.aload_n 2, 1) := by decide +kernel
theorem dX3_arrive_138 : decode cX3_arrive 138 = .ok (.invokevirtual 176, 3) := by decide +kernel
theorem dX3_arrive_141 : decode cX3_arrive 141 = .ok (.goto 18, 3) := by decide +kernel
theorem dX3_arrive_144 : decode cX3_arrive 144 = .ok (.aload_n 0, 1) := by decide +kernel
theorem dX3_arrive_145 : decode cX3_arrive 145 = .ok (.aload_n 3, 1) := by decide +kernel
theorem dX3_arrive_146 : decode cX3_arrive 146 = .ok (.aload_n 2, 1) := by decide +kernel
theorem dX3_arrive_147 : decode cX3_arrive 147 = .ok (.invokevirtual 179, 3) := by decide +kernel
theorem dX3_arrive_150 : decode cX3_arrive 150 = .ok (.goto 9, 3) := by decide +kernel
theorem dX3_arrive_153 : decode cX3_arrive 153 = .ok (.aload_n 0, 1) := by decide +kernel
theorem dX3_arrive_154 : decode cX3_arrive 154 = .ok (.aload_n 3, 1) := by decide +kernel
theorem dX3_arrive_155 : decode cX3_arrive 155 = .ok (.aload_n 2, 1) := by decide +kernel
theorem dX3_arrive_156 : decode cX3_arrive 156 = .ok (.invokevirtual 182, 3) := by decide +kernel
theorem dX3_arrive_159 : decode cX3_arrive 159 = .ok (.aload_n 2, 1) := by decide +kernel
theorem dX3_arrive_160 : decode cX3_arrive 160 = .ok (.getfield 95, 3) := by decide +kernel
theorem dX3_arrive_163 : decode cX3_arrive 163 = .ok (.ireturn, 1) := by decide +kernel
theorem dX3_findArrives_0 : decode cX3_findArrives 0 = .ok (.aload_n 1, 1) := by decide +kernel
theorem dX3_findArrives_1 : decode cX3_findArrives 1 = .ok (.getfield 135, 3) := by decide +kernel
theorem dX3_findArrives_4 : decode cX3_findArrives 4 = .ok (.aload_n 1, 1) := by decide +kernel
theorem dX3_findArrives_5 : decode cX3_findArrives 5 = .ok (.getfield 41, 3) := by decide +kernel
theorem dX3_findArrives_8 : decode cX3_findArrives 8 = .ok (.aload_n 2, 1) := by decide +kernel
theorem dX3_findArrives_9 : decode cX3_findArrives 9 = .ok (.getfield 156, 3) := by decide +kernel
theorem dX3_findArrives_12 : decode cX3_findArrives 12 = .ok (.invokestatic 185, 3) := by decide +kernel
theorem dX3_findArrives_15 : decode cX3_findArrives 15 = .ok (.ifCond .ne 12, 3) := by decide +kernel
theorem dX3_findArrives_18 : decode cX3_findArrives 18 = .ok (.aload_n 0, 1) := by decide +kernel
theorem dX3_findArrives_19 : decode cX3_findArrives 19 = .ok (.aload_n 1, 1) := by decide +kernel
theorem dX3_findArrives_20 : decode cX3_findArrives 20 = .ok (.aload_n 2, 1) := by decide +kernel
theorem dX3_findArrives_21 : decode cX3_findArrives 21 = .ok (.invokevirtual 189, 3) := by decide +kernel
theorem dX3_findArrives_24 : decode cX3_findArrives 24 = .ok (.goto 136, 3) := by decide +kernel
theorem dX3_findArrives_27 : decode cX3_findArrives 27 = .ok (.aload_n 2, 1) := by decide +kernel
theorem dX3_findArrives_28 : decode cX3_findArrives 28 = .ok (.getfield 153, 3) := by decide +kernel
theorem dX3_findArrives_31 : decode cX3_findArrives 31 = .ok (.iconst 3, 1) := by decide +kernel
theorem dX3_findArrives_32 : decode cX3_findArrives 32 = .ok (.if_icmp .ne 35, 3) := by decide +kernel
theorem dX3_findArrives_35 : decode cX3_findArrives 35 = .ok (.aload_n 0, 1) := by decide +kernel
theorem dX3_findArrives_36 : decode cX3_findArrives 36 = .ok (.getfield 29, 3) := by decide +kernel
theorem dX3_findArrives_39 : decode cX3_findArrives 39 = .ok (.iconst 3, 1) := by decide +kernel
theorem dX3_findArrives_40 : decode cX3_findArrives 40 = .ok (.aload_n 1, 1) := by decide +kernel
theorem dX3_findArrives_41 : decode cX3_findArrives 41 = .ok (.getfield 41, 3) := by decide +kernel
theorem dX3_findArrives_44 : decode cX3_findArrives 44 = .ok (.invokevirtual 58, 3) := by decide +kernel
theorem dX3_findArrives_47 : decode cX3_findArrives 47 = .ok (.astore_n 3, 1) := by decide +kernel
theorem dX3_findArrives_48 : decode cX3_findArrives 48 = .ok (.aload_n 3, 1) := by decide +kernel
theorem dX3_findArrives_49 : decode cX3_findArrives 49 = .ok (.aload_n 2, 1) := by decide +kernel
theorem dX3_findArrives_50 : decode cX3_findArrives 50 = .ok (.getfield 156, 3) := by decide +kernel
theorem dX3_findArrives_53 : decode cX3_findArrives 53 = .ok (.putfield 156, 3) := by decide +kernel
theorem dX3_findArrives_56 : decode cX3_findArrives 56 = .ok (.aload_n 3, 1) := by decide +kernel
theorem dX3_findArrives_57 : decode cX3_findArrives 57 = .ok (.aload_n 2, 1) := by decide +kernel
theorem dX3_findArrives_58 : decode cX3_findArrives 58 = .ok (.getfield 80, 3) := by decide +kernel
theorem dX3_findArrives_61 : decode cX3_findArrives 61 = .ok (.putfield 80, 3) := by decide +kernel
theorem dX3_findArrives_64 : decode cX3_findArrives 64 = .ok (.goto 96, 3) := by decide +kernel
theorem dX3_findArrives_67 : decode cX3_findArrives 67 = .ok (.aload_n 2, 1) := by decide +kernel
theorem dX3_findArrives_68 : decode cX3_findArrives 68 = .ok (.getfield 153, 3) := by decide +kernel
theorem dX3_findArrives_71 : decode cX3_findArrives 71 = .ok (.iconst 4, 1) := by decide +kernel
theorem dX3_findArrives_72 : decode cX3_findArrives 72 = .ok (.if_icmp .ne 43, 3) := by decide +kernel
theorem dX3_findArrives_75 : decode cX3_findArrives 75 = .ok (.aload_n 0, 1) := by decide +kernel
theorem dX3_findArrives_76 : decode cX3_findArrives 76 = .ok (.getfield 29, 3) := by decide +kernel
theorem dX3_findArrives_79 : decode cX3_findArrives 79 = .ok (.iconst 4, 1) := by decide +kernel
theorem dX3_findArrives_80 : decode cX3_findArrives 80 = .ok (.aload_n 1, 1) := by decide +kernel
theorem dX3_findArrives_81 : decode cX3_findArrives 81 = .ok (.getfield 41, 3) := by decide +kernel
theorem dX3_findArrives_84 : decode cX3_findArrives 84 = .ok (.invokevirtual 58, 3) := by decide +kernel
theorem dX3_findArrives_87 : decode cX3_findArrives 87 = .ok (.astore_n 3, 1) := by decide +kernel
theorem dX3_findArrives_88 : decode cX3_findArrives 88 = .ok (.aload_n 3, 1) := by decide +kernel
theorem dX3_findArrives_89 : decode cX3_findArrives 89 = .ok (.aload_n 2, 1) := by decide +kernel
theorem dX3_findArrives_90 : decode cX3_findArrives 90 = .ok (.getfield 156, 3) := by decide +kernel
theorem dX3_findArrives_93 : decode cX3_findArrives 93 = .ok (.putfield 156, 3) := by decide +kernel
theorem dX3_findArrives_96 : decode cX3_findArrives 96 = .ok (.aload_n 3, 1) := by decide +kernel
theorem dX3_findArrives_97 : decode cX3_findArrives 97 = .ok (.aload_n 2, 1) := by decide +kernel
theorem dX3_findArrives_98 : decode cX3_findArrives 98 = .ok (.getfield 150, 3) := by decide +kernel
theorem dX3_findArrives_101 : decode cX3_findArrives 101 = .ok (.putfield 150, 3) := by decide +kernel
theorem dX3_findArrives_104 : decode cX3_findArrives 104 = .ok (.aload_n 3, 1) := by decide +kernel
theorem dX3_findArrives_105 : decode cX3_findArrives 105 = .ok (.aload_n 2, 1) := by decide +kernel
theorem dX3_findArrives_106 : decode cX3_findArrives 106 = .ok (.getfield 175, 3) := by decide +kernel
theorem dX3_findArrives_109 : decode cX3_findArrives 109 = .ok (.putfield 175, 3) := by decide +kernel
theorem dX3_findArrives_112 : decode cX3_findArrives 112 = .ok (.goto 48, 3) := by decide +kernel
theorem dX3_findArrives_115 : decode cX3_findArrives 115 = .ok (.aload_n 0, 1) := by decide +kernel
theorem dX3_findArrives_116 : decode cX3_findArrives 116 = .ok (.getfield 29, 3) := by decide +kernel
theorem dX3_findArrives_119 : decode cX3_findArrives 119 = .ok (.iconst 2, 1) := by decide +kernel
theorem dX3_findArrives_120 : decode cX3_findArrives 120 = .ok (.aload_n 2, 1) := by decide +kernel
theorem dX3_findArrives_121 : decode cX3_findArrives 121 = .ok (.getfield 150, 3) := by decide +kernel
theorem dX3_findArrives_124 : decode cX3_findArrives 124 = .ok (.invokevirtual 58, 3) := by decide +kernel
theorem dX3_findArrives_127 : decode cX3_findArrives 127 = .ok (.astore_n 3, 1) := by decide +kernel
theorem dX3_findArrives_128 : decode cX3_findArrives 128 = .ok (.aload_n 3, 1) := by decide +kernel
theorem dX3_findArrives_129 : decode cX3_findArrives 129 = .ok (.aload_n 2, 1) := by decide +kernel
theorem dX3_findArrives_130 : decode cX3_findArrives 130 = .ok (.getfield 153, 3) := by decide +kernel
theorem dX3_findArrives_133 : decode cX3_findArrives 133 = .ok (.putfield 153, 3) := by decide +kernel
theorem dX3_findArrives_136 : decode cX3_findArrives 136 = .ok (.aload_n 3, 1) := by decide +kernel
theorem dX3_findArrives_137 : decode cX3_findArrives 137 = .ok (.aload_n 2, 1) := by decide +kernel
theorem dX3_findArrives_138 : decode cX3_findArrives 138 = .ok (.getfield 74, 3) := by decide +kernel
theorem dX3_findArrives_141 : decode cX3_findArrives 141 = .ok (.putfield 74, 3) := by decide +kernel
theorem dX3_findArrives_144 : decode cX3_findArrives 144 = .ok (.aload_n 3, 1) := by decide +kernel
theorem dX3_findArrives_145 : decode cX3_findArrives 145 = .ok (.aload_n 1, 1) := by decide +kernel
theorem dX3_findArrives_146 : decode cX3_findArrives 146 = .ok (.getfield 41, 3) := by decide +kernel
theorem dX3_findArrives_149 : decode cX3_findArrives 149 = .ok (.putfield 62, 3) := by decide +kernel
theorem dX3_findArrives_152 : decode cX3_findArrives 152 = .ok (.aload_n 3, 1) := by decide +kernel
theorem dX3_findArrives_153 : decode cX3_findArrives 153 = .ok (.aload_n 2, 1) := by decide +kernel
theorem dX3_findArrives_154 : decode cX3_findArrives 154 = .ok (.getfield 175, 3) := by decide +kernel
theorem dX3_findArrives_157 : decode cX3_findArrives 157 = .ok (.putfield 175, 3) := by decide +kernel
theorem dX3_findArrives_160 : decode cX3_findArrives 160 = .ok (.return_, 1) := by decide +kernel
theorem dX3_passOn_0 : decode cX3_passOn 0 = .ok (.aload_n 0, 1) := by decide +kernel
theorem dX3_passOn_1 : decode cX3_passOn 1 = .ok (.aload_n 1, 1) := by decide +kernel
theorem dX3_passOn_2 : decode cX3_passOn 2 = .ok (.aload_n 2, 1) := by decide +kernel
theorem dX3_passOn_3 : decode cX3_passOn 3 = .ok (.getfield 156, 3) := by decide +kernel
theorem dX3_passOn_6 : decode cX3_passOn 6 = .ok (.invokestatic 192, 3) := by decide +kernel
theorem dX3_passOn_9 : decode cX3_passOn 9 = .ok (.aload_n 2, 1) := by decide +kernel
theorem dX3_passOn_10 : decode cX3_passOn 10 = .ok (.getfield 150, 3) := by decide +kernel
theorem dX3_passOn_13 : decode cX3_passOn 13 = .ok (.aload_n 2, 1) := by decide +kernel
theorem dX3_passOn_14 : decode cX3_passOn 14 = .ok (.getfield 153, 3) := by decide +kernel
theorem dX3_passOn_17 : decode cX3_passOn 17 = .ok (.aload_n 2, 1) := by decide +kernel
theorem dX3_passOn_18 : decode cX3_passOn 18 = .ok (.getfield 156, 3) := by decide +kernel
theorem dX3_passOn_21 : decode cX3_passOn 21 = .ok (.invokevirtual 54, 3) := by decide +kernel
theorem dX3_passOn_24 : decode cX3_passOn 24 = .ok (.astore_n 3, 1) := by decide +kernel
theorem dX3_passOn_25 : decode cX3_passOn 25 = .ok (.aload_n 3, 1) := by decide +kernel
theorem dX3_passOn_26 : decode cX3_passOn 26 = .ok (.aload_n 2, 1) := by decide +kernel
theorem dX3_passOn_27 : decode cX3_passOn 27 = .ok (.getfield 74, 3) := by decide +kernel
theorem dX3_passOn_30 : decode cX3_passOn 30 = .ok (.putfield 74, 3) := by decide +kernel
theorem dX3_passOn_33 : decode cX3_passOn 33 = .ok (.aload_n 3, 1) := by decide +kernel
theorem dX3_passOn_34 : decode cX3_passOn 34 = .ok (.aload_n 2, 1) := by decide +kernel
theorem dX3_passOn_35 : decode cX3_passOn 35 = .ok (.getfield 80, 3) := by decide +kernel
theorem dX3_passOn_38 : decode cX3_passOn 38 = .ok (.putfield 80, 3) := by decide +kernel
theorem dX3_passOn_41 : decode cX3_passOn 41 = .ok (.aload_n 3, 1) := by decide +kernel
theorem dX3_passOn_42 : decode cX3_passOn 42 = .ok (.aload_n 2, 1) := by decide +kernel
theorem dX3_passOn_43 : decode cX3_passOn 43 = .ok (.getfield 175, 3) := by decide +kernel
theorem dX3_passOn_46 : decode cX3_passOn 46 = .ok (.iconst 1, 1) := by decide +kernel
theorem dX3_passOn_47 : decode cX3_passOn 47 = .ok (.iadd, 1) := by decide +kernel
theorem dX3_passOn_48 : decode cX3_passOn 48 = .ok (.putfield 175, 3) := by decide +kernel
theorem dX3_passOn_51 : decode cX3_passOn 51 = .ok (.return_, 1) := by decide +kernel
theorem dX3_nextTowards_0 : decode cX3_nextTowards 0 = .ok (.bipush 7, 2) := by decide +kernel
theorem dX3_nextTowards_2 : decode cX3_nextTowards 2 = .ok (.istore_n 2, 1) := by decide +kernel
theorem dX3_nextTowards_3 : decode cX3_nextTowards 3 = .ok (.iload_n 2, 1) := by decide +kernel
theorem dX3_nextTowards_4 : decode cX3_nextTowards 4 = .ok (.ifCond .lt 35, 3) := by decide +kernel
theorem dX3_nextTowards_7 : decode cX3_nextTowards 7 = .ok (.aload_n 0, 1) := by decide +kernel
theorem dX3_nextTowards_8 : decode cX3_nextTowards 8 = .ok (.getfield 104, 3) := by decide +kernel
theorem dX3_nextTowards_11 : decode cX3_nextTowards 11 = .ok (.iload_n 2, 1) := by decide +kernel
theorem dX3_nextTowards_12 : decode cX3_nextTowards 12 = .ok (.iaload, 1) := by decide +kernel
theorem dX3_nextTowards_13 : decode cX3_nextTowards 13 = .ok (.istore_n 3, 1) := by decide +kernel
theorem dX3_nextTowards_14 : decode cX3_nextTowards 14 = .ok (.iload_n 3, 1) := by decide +kernel
theorem dX3_nextTowards_15 : decode cX3_nextTowards 15 = .ok (.iconst (-1), 1) := by decide +kernel
theorem dX3_nextTowards_16 : decode cX3_nextTowards 16 = .ok (.if_icmp .eq 17, 3) := by decide +kernel
theorem dX3_nextTowards_19 : decode cX3_nextTowards 19 = .ok (.aload_n 0, 1) := by decide +kernel
theorem dX3_nextTowards_20 : decode cX3_nextTowards 20 = .ok (.getfield 135, 3) := by decide +kernel
theorem dX3_nextTowards_23 : decode cX3_nextTowards 23 = .ok (.iload_n 1, 1) := by decide +kernel
theorem dX3_nextTowards_24 : decode cX3_nextTowards 24 = .ok (.iload_n 3, 1) := by decide +kernel
theorem dX3_nextTowards_25 : decode cX3_nextTowards 25 = .ok (.invokestatic 196, 3) := by decide +kernel
theorem dX3_nextTowards_28 : decode cX3_nextTowards 28 = .ok (.ifCond .eq 5, 3) := by decide +kernel
theorem dX3_nextTowards_31 : decode cX3_nextTowards 31 = .ok (.iload_n 3, 1) := by decide +kernel
theorem dX3_nextTowards_32 : decode cX3_nextTowards 32 = .ok (.ireturn, 1) := by decide +kernel
theorem dX3_nextTowards_33 : decode cX3_nextTowards 33 = .ok (.iinc 2 (-1), 3) := by decide +kernel
theorem dX3_nextTowards_36 : decode cX3_nextTowards 36 = .ok (.goto (-33), 3) := by decide +kernel
theorem dX3_nextTowards_39 : decode cX3_nextTowards 39 = .ok (.aload_n 0, 1) := by decide +kernel
theorem dX3_nextTowards_40 : decode cX3_nextTowards 40 = .ok (.getfield 41, 3) := by decide +kernel
theorem dX3_nextTowards_43 : decode cX3_nextTowards 43 = .ok (.ireturn, 1) := by decide +kernel
theorem dX3_foundArrives_0 : decode cX3_foundArrives 0 = .ok (.aload_n 2, 1) := by decide +kernel
theorem dX3_foundArrives_1 : decode cX3_foundArrives 1 = .ok (.getfield 153, 3) := by decide +kernel
theorem dX3_foundArrives_4 : decode cX3_foundArrives 4 = .ok (.iconst 1, 1) := by decide +kernel
theorem dX3_foundArrives_5 : decode cX3_foundArrives 5 = .ok (.if_icmp .ne 14, 3) := by decide +kernel
theorem dX3_foundArrives_8 : decode cX3_foundArrives 8 = .ok (.aload_n 1, 1) := by decide +kernel
theorem dX3_foundArrives_9 : decode cX3_foundArrives 9 = .ok (.aload_n 2, 1) := by decide +kernel
theorem dX3_foundArrives_10 : decode cX3_foundArrives 10 = .ok (.getfield 62, 3) := by decide +kernel
theorem dX3_foundArrives_13 : decode cX3_foundArrives 13 = .ok (.putfield 41, 3) := by decide +kernel
theorem dX3_foundArrives_16 : decode cX3_foundArrives 16 = .ok (.goto 26, 3) := by decide +kernel
theorem dX3_foundArrives_19 : decode cX3_foundArrives 19 = .ok (.aload_n 2, 1) := by decide +kernel
theorem dX3_foundArrives_20 : decode cX3_foundArrives 20 = .ok (.getfield 74, 3) := by decide +kernel
theorem dX3_foundArrives_23 : decode cX3_foundArrives 23 = .ok (.invokestatic 67, 3) := by decide +kernel
theorem dX3_foundArrives_26 : decode cX3_foundArrives 26 = .ok (.ifCond .eq 16, 3) := by decide +kernel
theorem dX3_foundArrives_29 : decode cX3_foundArrives 29 = .ok (.aload_n 1, 1) := by decide +kernel
theorem dX3_foundArrives_30 : decode cX3_foundArrives 30 = .ok (.getfield 104, 3) := by decide +kernel
theorem dX3_foundArrives_33 : decode cX3_foundArrives 33 = .ok (.aload_n 2, 1) := by decide +kernel
theorem dX3_foundArrives_34 : decode cX3_foundArrives 34 = .ok (.getfield 74, 3) := by decide +kernel
theorem dX3_foundArrives_37 : decode cX3_foundArrives 37 = .ok (.aload_n 2, 1) := by decide +kernel
theorem dX3_foundArrives_38 : decode cX3_foundArrives 38 = .ok (.getfield 62, 3) := by decide +kernel
theorem dX3_foundArrives_41 : decode cX3_foundArrives 41 = .ok (.iastore, 1) := by decide +kernel
theorem dX3_foundArrives_42 : decode cX3_foundArrives 42 = .ok (.aload_n 1, 1) := by decide +kernel
theorem dX3_foundArrives_43 : decode cX3_foundArrives 43 = .ok (.aload_n 2, 1) := by decide +kernel
theorem dX3_foundArrives_44 : decode cX3_foundArrives 44 = .ok (.getfield 175, 3) := by decide +kernel
theorem dX3_foundArrives_47 : decode cX3_foundArrives 47 = .ok (.putfield 122, 3) := by decide +kernel
theorem dX3_foundArrives_50 : decode cX3_foundArrives 50 = .ok (.return_, 1) := by decide +kernel
theorem dX3_storeArrives_0 : decode cX3_storeArrives 0 = .ok (.aload_n 0, 1) := by decide +kernel
theorem dX3_storeArrives_1 : decode cX3_storeArrives 1 = .ok (.aload_n 2, 1) := by decide +kernel
theorem dX3_storeArrives_2 : decode cX3_storeArrives 2 = .ok (.getfield 156, 3) := by decide +kernel
theorem dX3_storeArrives_5 : decode cX3_storeArrives 5 = .ok (.invokevirtual 147, 3) := by decide +kernel
theorem dX3_storeArrives_8 : decode cX3_storeArrives 8 = .ok (.istore_n 3, 1) := by decide +kernel
theorem dX3_storeArrives_9 : decode cX3_storeArrives 9 = .ok (.iload_n 3, 1) := by decide +kernel
theorem dX3_storeArrives_10 : decode cX3_storeArrives 10 = .ok (.iconst (-1), 1) := by decide +kernel
theorem dX3_storeArrives_11 : decode cX3_storeArrives 11 = .ok (.if_icmp .eq 13, 3) := by decide +kernel
theorem dX3_storeArrives_14 : decode cX3_storeArrives 14 = .ok (.aload_n 1, 1) := by decide +kernel
theorem dX3_storeArrives_15 : decode cX3_storeArrives 15 = .ok (.getfield 113, 3) := by decide +kernel
theorem dX3_storeArrives_18 : decode cX3_storeArrives 18 = .ok (.iload_n 3, 1) := by decide +kernel
theorem dX3_storeArrives_19 : decode cX3_storeArrives 19 = .ok (.aload_n 2, 1) := by decide +kernel
theorem dX3_storeArrives_20 : decode cX3_storeArrives 20 = .ok (.getfield 80, 3) := by decide +kernel
theorem dX3_storeArrives_23 : decode cX3_storeArrives 23 = .ok (.lastore, 1) := by decide +kernel
theorem dX3_storeArrives_24 : decode cX3_storeArrives 24 = .ok (.return_, 1) := by decide +kernel
theorem dX3_fetchArrives_0 : decode cX3_fetchArrives 0 = .ok (.aload_n 0, 1) := by decide +kernel
theorem dX3_fetchArrives_1 : decode cX3_fetchArrives 1 = .ok (.getfield 29, 3) := by decide +kernel
theorem dX3_fetchArrives_4 : decode cX3_fetchArrives 4 = .ok (.iconst 5, 1) := by decide +kernel
theorem dX3_fetchArrives_5 : decode cX3_fetchArrives 5 = .ok (.aload_n 2, 1) := by decide +kernel
theorem dX3_fetchArrives_6 : decode cX3_fetchArrives 6 = .ok (.getfield 150, 3) := by decide +kernel
theorem dX3_fetchArrives_9 : decode cX3_fetchArrives 9 = .ok (.invokevirtual 58, 3) := by decide +kernel
theorem dX3_fetchArrives_12 : decode cX3_fetchArrives 12 = .ok (.astore_n 3, 1) := by decide +kernel
theorem dX3_fetchArrives_13 : decode cX3_fetchArrives 13 = .ok (.aload_n 3, 1) := by decide +kernel
theorem dX3_fetchArrives_14 : decode cX3_fetchArrives 14 = .ok (.aload_n 0, 1) := by decide +kernel
theorem dX3_fetchArrives_15 : decode cX3_fetchArrives 15 = .ok (.aload_n 1, 1) := by decide +kernel
theorem dX3_fetchArrives_16 : decode cX3_fetchArrives 16 = .ok (.aload_n 2, 1) := by decide +kernel
theorem dX3_fetchArrives_17 : decode cX3_fetchArrives 17 = .ok (.getfield 156, 3) := by decide +kernel
theorem dX3_fetchArrives_20 : decode cX3_fetchArrives 20 = .ok (.invokevirtual 109, 3) := by decide +kernel
theorem dX3_fetchArrives_23 : decode cX3_fetchArrives 23 = .ok (.putfield 80, 3) := by decide +kernel
theorem dX3_fetchArrives_26 : decode cX3_fetchArrives 26 = .ok (.aload_n 3, 1) := by decide +kernel
theorem dX3_fetchArrives_27 : decode cX3_fetchArrives 27 = .ok (.aload_n 2, 1) := by decide +kernel
theorem dX3_fetchArrives_28 : decode cX3_fetchArrives 28 = .ok (.getfield 175, 3) := by decide +kernel
theorem dX3_fetchArrives_31 : decode cX3_fetchArrives 31 = .ok (.putfield 175, 3) := by decide +kernel
theorem dX3_fetchArrives_34 : decode cX3_fetchArrives 34 = .ok (.return_, 1) := by decide +kernel
theorem dX3_askArrives_0 : decode cX3_askArrives 0 = .ok (.aload_n 0, 1) := by decide +kernel
theorem dX3_askArrives_1 : decode cX3_askArrives 1 = .ok (.getfield 29, 3) := by decide +kernel
theorem dX3_askArrives_4 : decode cX3_askArrives 4 = .ok (.bipush 7, 2) := by decide +kernel
theorem dX3_askArrives_6 : decode cX3_askArrives 6 = .ok (.aload_n 2, 1) := by decide +kernel
theorem dX3_askArrives_7 : decode cX3_askArrives 7 = .ok (.getfield 62, 3) := by decide +kernel
theorem dX3_askArrives_10 : decode cX3_askArrives 10 = .ok (.invokevirtual 58, 3) := by decide +kernel
theorem dX3_askArrives_13 : decode cX3_askArrives 13 = .ok (.astore_n 3, 1) := by decide +kernel
theorem dX3_askArrives_14 : decode cX3_askArrives 14 = .ok (.aload_n 3, 1) := by decide +kernel
theorem dX3_askArrives_15 : decode cX3_askArrives 15 = .ok (.aload_n 1, 1) := by decide +kernel
theorem dX3_askArrives_16 : decode cX3_askArrives 16 = .ok (.getfield 101, 3) := by decide +kernel
theorem dX3_askArrives_19 : decode cX3_askArrives 19 = .ok (.putfield 62, 3) := by decide +kernel
theorem dX3_askArrives_22 : decode cX3_askArrives 22 = .ok (.return_, 1) := by decide +kernel
theorem dX3_tellArrives_0 : decode cX3_tellArrives 0 = .ok (.aload_n 2, 1) := by decide +kernel
theorem dX3_tellArrives_1 : decode cX3_tellArrives 1 = .ok (.getfield 62, 3) := by decide +kernel
theorem dX3_tellArrives_4 : decode cX3_tellArrives 4 = .ok (.iconst (-1), 1) := by decide +kernel
theorem dX3_tellArrives_5 : decode cX3_tellArrives 5 = .ok (.if_icmp .eq 29, 3) := by decide +kernel
theorem dX3_tellArrives_8 : decode cX3_tellArrives 8 = .ok (.aload_n 1, 1) := by decide +kernel
theorem dX3_tellArrives_9 : decode cX3_tellArrives 9 = .ok (.getfield 135, 3) := by decide +kernel
theorem dX3_tellArrives_12 : decode cX3_tellArrives 12 = .ok (.aload_n 1, 1) := by decide +kernel
theorem dX3_tellArrives_13 : decode cX3_tellArrives 13 = .ok (.getfield 41, 3) := by decide +kernel
theorem dX3_tellArrives_16 : decode cX3_tellArrives 16 = .ok (.aload_n 2, 1) := by decide +kernel
theorem dX3_tellArrives_17 : decode cX3_tellArrives 17 = .ok (.getfield 62, 3) := by decide +kernel
theorem dX3_tellArrives_20 : decode cX3_tellArrives 20 = .ok (.invokestatic 196, 3) := by decide +kernel
theorem dX3_tellArrives_23 : decode cX3_tellArrives 23 = .ok (.ifCond .eq 11, 3) := by decide +kernel
theorem dX3_tellArrives_26 : decode cX3_tellArrives 26 = .ok (.aload_n 1, 1) := by decide +kernel
theorem dX3_tellArrives_27 : decode cX3_tellArrives 27 = .ok (.aload_n 2, 1) := by decide +kernel
theorem dX3_tellArrives_28 : decode cX3_tellArrives 28 = .ok (.getfield 62, 3) := by decide +kernel
theorem dX3_tellArrives_31 : decode cX3_tellArrives 31 = .ok (.putfield 41, 3) := by decide +kernel
theorem dX3_tellArrives_34 : decode cX3_tellArrives 34 = .ok (.aload_n 0, 1) := by decide +kernel
theorem dX3_tellArrives_35 : decode cX3_tellArrives 35 = .ok (.getfield 29, 3) := by decide +kernel
theorem dX3_tellArrives_38 : decode cX3_tellArrives 38 = .ok (.bipush 8, 2) := by decide +kernel
theorem dX3_tellArrives_40 : decode cX3_tellArrives 40 = .ok (.aload_n 1, 1) := by decide +kernel
theorem dX3_tellArrives_41 : decode cX3_tellArrives 41 = .ok (.getfield 41, 3) := by decide +kernel
theorem dX3_tellArrives_44 : decode cX3_tellArrives 44 = .ok (.invokevirtual 58, 3) := by decide +kernel
theorem dX3_tellArrives_47 : decode cX3_tellArrives 47 = .ok (.astore_n 3, 1) := by decide +kernel
theorem dX3_tellArrives_48 : decode cX3_tellArrives 48 = .ok (.aload_n 3, 1) := by decide +kernel
theorem dX3_tellArrives_49 : decode cX3_tellArrives 49 = .ok (.aload_n 1, 1) := by decide +kernel
theorem dX3_tellArrives_50 : decode cX3_tellArrives 50 = .ok (.getfield 135, 3) := by decide +kernel
theorem dX3_tellArrives_53 : decode cX3_tellArrives 53 = .ok (.putfield 62, 3) := by decide +kernel
theorem dX3_tellArrives_56 : decode cX3_tellArrives 56 = .ok (.return_, 1) := by decide +kernel
theorem dX3_notifyArrives_0 : decode cX3_notifyArrives 0 = .ok (.aload_n 1, 1) := by decide +kernel
theorem dX3_notifyArrives_1 : decode cX3_notifyArrives 1 = .ok (.getfield 101, 3) := by decide +kernel
theorem dX3_notifyArrives_4 : decode cX3_notifyArrives 4 = .ok (.iconst (-1), 1) := by decide +kernel
theorem dX3_notifyArrives_5 : decode cX3_notifyArrives 5 = .ok (.if_icmp .eq 21, 3) := by decide +kernel
theorem dX3_notifyArrives_8 : decode cX3_notifyArrives 8 = .ok (.aload_n 1, 1) := by decide +kernel
theorem dX3_notifyArrives_9 : decode cX3_notifyArrives 9 = .ok (.getfield 101, 3) := by decide +kernel
theorem dX3_notifyArrives_12 : decode cX3_notifyArrives 12 = .ok (.aload_n 1, 1) := by decide +kernel
theorem dX3_notifyArrives_13 : decode cX3_notifyArrives 13 = .ok (.getfield 135, 3) := by decide +kernel
theorem dX3_notifyArrives_16 : decode cX3_notifyArrives 16 = .ok (.aload_n 2, 1) := by decide +kernel
theorem dX3_notifyArrives_17 : decode cX3_notifyArrives 17 = .ok (.getfield 62, 3) := by decide +kernel
theorem dX3_notifyArrives_20 : decode cX3_notifyArrives 20 = .ok (.invokestatic 196, 3) := by decide +kernel
theorem dX3_notifyArrives_23 : decode cX3_notifyArrives 23 = .ok (.ifCond .eq 24, 3) := by decide +kernel
theorem dX3_notifyArrives_26 : decode cX3_notifyArrives 26 = .ok (.aload_n 1, 1) := by decide +kernel
theorem dX3_notifyArrives_27 : decode cX3_notifyArrives 27 = .ok (.aload_n 2, 1) := by decide +kernel
theorem dX3_notifyArrives_28 : decode cX3_notifyArrives 28 = .ok (.getfield 62, 3) := by decide +kernel
theorem dX3_notifyArrives_31 : decode cX3_notifyArrives 31 = .ok (.putfield 101, 3) := by decide +kernel
theorem dX3_notifyArrives_34 : decode cX3_notifyArrives 34 = .ok (.aload_n 0, 1) := by decide +kernel
theorem dX3_notifyArrives_35 : decode cX3_notifyArrives 35 = .ok (.aload_n 1, 1) := by decide +kernel
theorem dX3_notifyArrives_36 : decode cX3_notifyArrives 36 = .ok (.aload_n 0, 1) := by decide +kernel
theorem dX3_notifyArrives_37 : decode cX3_notifyArrives 37 = .ok (.aload_n 2, 1) := by decide +kernel
theorem dX3_notifyArrives_38 : decode cX3_notifyArrives 38 = .ok (.getfield 62, 3) := by decide +kernel
theorem dX3_notifyArrives_41 : decode cX3_notifyArrives 41 = .ok (.invokevirtual 44, 3) := by decide +kernel
theorem dX3_notifyArrives_44 : decode cX3_notifyArrives 44 = .ok (.invokevirtual 199, 3) := by decide +kernel
theorem dX3_notifyArrives_47 : decode cX3_notifyArrives 47 = .ok (.return_, 1) := by decide +kernel
theorem dX3_handOver_0 : decode cX3_handOver 0 = .ok (.aload_n 2, 1) := by decide +kernel
theorem dX3_handOver_1 : decode cX3_handOver 1 = .ok (.ifnonnull 4, 3) := by decide +kernel
theorem dX3_handOver_4 : decode cX3_handOver 4 = .ok (.return_, 1) := by decide +kernel
theorem dX3_handOver_5 : decode cX3_handOver 5 = .ok (.iconst 0, 1) := by decide +kernel
theorem dX3_handOver_6 : decode cX3_handOver 6 = .ok (.istore_n 3, 1) := by decide +kernel
theorem dX3_handOver_7 : decode cX3_handOver 7 = .ok (.iload_n 3, 1) := by decide +kernel
theorem dX3_handOver_8 : decode cX3_handOver 8 = .ok (.aload_n 0, 1) := by decide +kernel
theorem dX3_handOver_9 : decode cX3_handOver 9 = .ok (.getfield 23, 3) := by decide +kernel
theorem dX3_handOver_12 : decode cX3_handOver 12 = .ok (.if_icmp .ge 63, 3) := by decide +kernel
theorem dX3_handOver_15 : decode cX3_handOver 15 = .ok (.aload_n 1, 1) := by decide +kernel
theorem dX3_handOver_16 : decode cX3_handOver 16 = .ok (.getfield 113, 3) := by decide +kernel
theorem dX3_handOver_19 : decode cX3_handOver 19 = .ok (.iload_n 3, 1) := by decide +kernel
theorem dX3_handOver_20 : decode cX3_handOver 20 = .ok (.laload, 1) := by decide +kernel
theorem dX3_handOver_21 : decode cX3_handOver 21 = .ok (.ldc2_w 107, 3) := by decide +kernel
theorem dX3_handOver_24 : decode cX3_handOver 24 = .ok (.lcmp, 1) := by decide +kernel
theorem dX3_handOver_25 : decode cX3_handOver 25 = .ok (.ifCond .eq 44, 3) := by decide +kernel
theorem dX3_handOver_28 : decode cX3_handOver 28 = .ok (.aload_n 2, 1) := by decide +kernel
theorem dX3_handOver_29 : decode cX3_handOver 29 = .ok (.getfield 135, 3) := by decide +kernel
theorem dX3_handOver_32 : decode cX3_handOver 32 = .ok (.aload_n 1, 1) := by decide +kernel
theorem dX3_handOver_33 : decode cX3_handOver 33 = .ok (.getfield 135, 3) := by decide +kernel
theorem dX3_handOver_36 : decode cX3_handOver 36 = .ok (.aload_n 0, 1) := by decide +kernel
theorem dX3_handOver_37 : decode cX3_handOver 37 = .ok (.getfield 19, 3) := by decide +kernel
theorem dX3_handOver_40 : decode cX3_handOver 40 = .ok (.iload_n 3, 1) := by decide +kernel
theorem dX3_handOver_41 : decode cX3_handOver 41 = .ok (.iaload, 1) := by decide +kernel
theorem dX3_handOver_42 : decode cX3_handOver 42 = .ok (.invokestatic 185, 3) := by decide +kernel
theorem dX3_handOver_45 : decode cX3_handOver 45 = .ok (.ifCond .ne 24, 3) := by decide +kernel
theorem dX3_handOver_48 : decode cX3_handOver 48 = .ok (.aload_n 2, 1) := by decide +kernel
theorem dX3_handOver_49 : decode cX3_handOver 49 = .ok (.getfield 113, 3) := by decide +kernel
theorem dX3_handOver_52 : decode cX3_handOver 52 = .ok (.iload_n 3, 1) := by decide +kernel
theorem dX3_handOver_53 : decode cX3_handOver 53 = .ok (.aload_n 1, 1) := by decide +kernel
theorem dX3_handOver_54 : decode cX3_handOver 54 = .ok (.getfield 113, 3) := by decide +kernel
theorem dX3_handOver_57 : decode cX3_handOver 57 = .ok (.iload_n 3, 1) := by decide +kernel
theorem dX3_handOver_58 : decode cX3_handOver 58 = .ok (.laload, 1) := by decide +kernel
theorem dX3_handOver_59 : decode cX3_handOver 59 = .ok (.lastore, 1) := by decide +kernel
theorem dX3_handOver_60 : decode cX3_handOver 60 = .ok (.aload_n 1, 1) := by decide +kernel
theorem dX3_handOver_61 : decode cX3_handOver 61 = .ok (.getfield 113, 3) := by decide +kernel
theorem dX3_handOver_64 : decode cX3_handOver 64 = .ok (.iload_n 3, 1) := by decide +kernel
theorem dX3_handOver_65 : decode cX3_handOver 65 = .ok (.ldc2_w 107, 3) := by decide +kernel
theorem dX3_handOver_68 : decode cX3_handOver 68 = .ok (.lastore, 1) := by decide +kernel
theorem dX3_handOver_69 : decode cX3_handOver 69 = .ok (.iinc 3 1, 3) := by decide +kernel
theorem dX3_handOver_72 : decode cX3_handOver 72 = .ok (.goto (-65), 3) := by decide +kernel
theorem dX3_handOver_75 : decode cX3_handOver 75 = .ok (.return_, 1) := by decide +kernel
theorem dJ7_filli_0 : decode cJ7_filli 0 = .ok (.iconst 0, 1) := by decide +kernel
theorem dJ7_filli_1 : decode cJ7_filli 1 = .ok (.istore_n 2, 1) := by decide +kernel
theorem dJ7_filli_2 : decode cJ7_filli 2 = .ok (.aload_n 0, 1) := by decide +kernel
theorem dJ7_filli_3 : decode cJ7_filli 3 = .ok (.arraylength, 1) := by decide +kernel
theorem dJ7_filli_4 : decode cJ7_filli 4 = .ok (.istore_n 3, 1) := by decide +kernel
theorem dJ7_filli_5 : decode cJ7_filli 5 = .ok (.iload_n 2, 1) := by decide +kernel
theorem dJ7_filli_6 : decode cJ7_filli 6 = .ok (.iload_n 3, 1) := by decide +kernel
theorem dJ7_filli_7 : decode cJ7_filli 7 = .ok (.if_icmp .ge 13, 3) := by decide +kernel
theorem dJ7_filli_10 : decode cJ7_filli 10 = .ok (.aload_n 0, 1) := by decide +kernel
theorem dJ7_filli_11 : decode cJ7_filli 11 = .ok (.iload_n 2, 1) := by decide +kernel
theorem dJ7_filli_12 : decode cJ7_filli 12 = .ok (.iload_n 1, 1) := by decide +kernel
theorem dJ7_filli_13 : decode cJ7_filli 13 = .ok (.iastore, 1) := by decide +kernel
theorem dJ7_filli_14 : decode cJ7_filli 14 = .ok (.iinc 2 1, 3) := by decide +kernel
theorem dJ7_filli_17 : decode cJ7_filli 17 = .ok (.goto (-12), 3) := by decide +kernel
theorem dJ7_filli_20 : decode cJ7_filli 20 = .ok (.return_, 1) := by decide +kernel
theorem dJ7_filll_0 : decode cJ7_filll 0 = .ok (.iconst 0, 1) := by decide +kernel
theorem dJ7_filll_1 : decode cJ7_filll 1 = .ok (.istore_n 3, 1) := by decide +kernel
theorem dJ7_filll_2 : decode cJ7_filll 2 = .ok (.aload_n 0, 1) := by decide +kernel
theorem dJ7_filll_3 : decode cJ7_filll 3 = .ok (.arraylength, 1) := by decide +kernel
theorem dJ7_filll_4 : decode cJ7_filll 4 = .ok (.istore 4, 2) := by decide +kernel
theorem dJ7_filll_6 : decode cJ7_filll 6 = .ok (.iload_n 3, 1) := by decide +kernel
theorem dJ7_filll_7 : decode cJ7_filll 7 = .ok (.iload 4, 2) := by decide +kernel
theorem dJ7_filll_9 : decode cJ7_filll 9 = .ok (.if_icmp .ge 13, 3) := by decide +kernel
theorem dJ7_filll_12 : decode cJ7_filll 12 = .ok (.aload_n 0, 1) := by decide +kernel
theorem dJ7_filll_13 : decode cJ7_filll 13 = .ok (.iload_n 3, 1) := by decide +kernel
theorem dJ7_filll_14 : decode cJ7_filll 14 = .ok (.lload_n 1, 1) := by decide +kernel
theorem dJ7_filll_15 : decode cJ7_filll 15 = .ok (.lastore, 1) := by decide +kernel
theorem dJ7_filll_16 : decode cJ7_filll 16 = .ok (.iinc 3 1, 3) := by decide +kernel
theorem dJ7_filll_19 : decode cJ7_filll 19 = .ok (.goto (-13), 3) := by decide +kernel
theorem dJ7_filll_22 : decode cJ7_filll 22 = .ok (.return_, 1) := by decide +kernel
