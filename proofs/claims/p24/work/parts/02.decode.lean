theorem dX0_init_0 : decode cX0_init 0 = .ok (.aload_n 0, 1) := by decide +kernel
theorem dX0_init_1 : decode cX0_init 1 = .ok (.invokespecial 1, 3) := by decide +kernel
theorem dX0_init_4 : decode cX0_init 4 = .ok (.aload_n 0, 1) := by decide +kernel
theorem dX0_init_5 : decode cX0_init 5 = .ok (.sipush 512, 3) := by decide +kernel
theorem dX0_init_8 : decode cX0_init 8 = .ok (.newarray .int, 2) := by decide +kernel
theorem dX0_init_10 : decode cX0_init 10 = .ok (.putfield 9, 3) := by decide +kernel
theorem dX0_init_13 : decode cX0_init 13 = .ok (.aload_n 0, 1) := by decide +kernel
theorem dX0_init_14 : decode cX0_init 14 = .ok (.sipush 512, 3) := by decide +kernel
theorem dX0_init_17 : decode cX0_init 17 = .ok (.newarray .int, 2) := by decide +kernel
theorem dX0_init_19 : decode cX0_init 19 = .ok (.putfield 13, 3) := by decide +kernel
theorem dX0_init_22 : decode cX0_init 22 = .ok (.aload_n 0, 1) := by decide +kernel
theorem dX0_init_23 : decode cX0_init 23 = .ok (.sipush 512, 3) := by decide +kernel
theorem dX0_init_26 : decode cX0_init 26 = .ok (.newarray .int, 2) := by decide +kernel
theorem dX0_init_28 : decode cX0_init 28 = .ok (.putfield 16, 3) := by decide +kernel
theorem dX0_init_31 : decode cX0_init 31 = .ok (.return_, 1) := by decide +kernel
theorem dX0_note_0 : decode cX0_note 0 = .ok (.aload_n 0, 1) := by decide +kernel
theorem dX0_note_1 : decode cX0_note 1 = .ok (.getfield 19, 3) := by decide +kernel
theorem dX0_note_4 : decode cX0_note 4 = .ok (.sipush 512, 3) := by decide +kernel
theorem dX0_note_7 : decode cX0_note 7 = .ok (.if_icmp .lt 5, 3) := by decide +kernel
theorem dX0_note_10 : decode cX0_note 10 = .ok (.iconst 0, 1) := by decide +kernel
theorem dX0_note_11 : decode cX0_note 11 = .ok (.ireturn, 1) := by decide +kernel
theorem dX0_note_12 : decode cX0_note 12 = .ok (.aload_n 0, 1) := by decide +kernel
theorem dX0_note_13 : decode cX0_note 13 = .ok (.getfield 9, 3) := by decide +kernel
theorem dX0_note_16 : decode cX0_note 16 = .ok (.aload_n 0, 1) := by decide +kernel
theorem dX0_note_17 : decode cX0_note 17 = .ok (.getfield 19, 3) := by decide +kernel
theorem dX0_note_20 : decode cX0_note 20 = .ok (.iload_n 1, 1) := by decide +kernel
theorem dX0_note_21 : decode cX0_note 21 = .ok (.iastore, 1) := by decide +kernel
theorem dX0_note_22 : decode cX0_note 22 = .ok (.aload_n 0, 1) := by decide +kernel
theorem dX0_note_23 : decode cX0_note 23 = .ok (.getfield 13, 3) := by decide +kernel
theorem dX0_note_26 : decode cX0_note 26 = .ok (.aload_n 0, 1) := by decide +kernel
theorem dX0_note_27 : decode cX0_note 27 = .ok (.getfield 19, 3) := by decide +kernel
theorem dX0_note_30 : decode cX0_note 30 = .ok (.iload_n 2, 1) := by decide +kernel
theorem dX0_note_31 : decode cX0_note 31 = .ok (.iastore, 1) := by decide +kernel
theorem dX0_note_32 : decode cX0_note 32 = .ok (.aload_n 0, 1) := by decide +kernel
theorem dX0_note_33 : decode cX0_note 33 = .ok (.getfield 16, 3) := by decide +kernel
theorem dX0_note_36 : decode cX0_note 36 = .ok (.aload_n 0, 1) := by decide +kernel
theorem dX0_note_37 : decode cX0_note 37 = .ok (.getfield 19, 3) := by decide +kernel
theorem dX0_note_40 : decode cX0_note 40 = .ok (.iload_n 3, 1) := by decide +kernel
theorem dX0_note_41 : decode cX0_note 41 = .ok (.iastore, 1) := by decide +kernel
theorem dX0_note_42 : decode cX0_note 42 = .ok (.aload_n 0, 1) := by decide +kernel
theorem dX0_note_43 : decode cX0_note 43 = .ok (.dup, 1) := by decide +kernel
theorem dX0_note_44 : decode cX0_note 44 = .ok (.getfield 19, 3) := by decide +kernel
theorem dX0_note_47 : decode cX0_note 47 = .ok (.iconst 1, 1) := by decide +kernel
theorem dX0_note_48 : decode cX0_note 48 = .ok (.iadd, 1) := by decide +kernel
theorem dX0_note_49 : decode cX0_note 49 = .ok (.putfield 19, 3) := by decide +kernel
theorem dX0_note_52 : decode cX0_note 52 = .ok (.iconst 1, 1) := by decide +kernel
theorem dX0_note_53 : decode cX0_note 53 = .ok (.ireturn, 1) := by decide +kernel
theorem dX0_gateAtEndOf_0 : decode cX0_gateAtEndOf 0 = .ok (.aload_n 0, 1) := by decide +kernel
theorem dX0_gateAtEndOf_1 : decode cX0_gateAtEndOf 1 = .ok (.getfield 19, 3) := by decide +kernel
theorem dX0_gateAtEndOf_4 : decode cX0_gateAtEndOf 4 = .ok (.iconst 1, 1) := by decide +kernel
theorem dX0_gateAtEndOf_5 : decode cX0_gateAtEndOf 5 = .ok (.isub, 1) := by decide +kernel
theorem dX0_gateAtEndOf_6 : decode cX0_gateAtEndOf 6 = .ok (.istore 4, 2) := by decide +kernel
theorem dX0_gateAtEndOf_8 : decode cX0_gateAtEndOf 8 = .ok (.iload 4, 2) := by decide +kernel
theorem dX0_gateAtEndOf_10 : decode cX0_gateAtEndOf 10 = .ok (.ifCond .lt 39, 3) := by decide +kernel
theorem dX0_gateAtEndOf_13 : decode cX0_gateAtEndOf 13 = .ok (.aload_n 0, 1) := by decide +kernel
theorem dX0_gateAtEndOf_14 : decode cX0_gateAtEndOf 14 = .ok (.getfield 9, 3) := by decide +kernel
theorem dX0_gateAtEndOf_17 : decode cX0_gateAtEndOf 17 = .ok (.iload 4, 2) := by decide +kernel
theorem dX0_gateAtEndOf_19 : decode cX0_gateAtEndOf 19 = .ok (.iaload, 1) := by decide +kernel
theorem dX0_gateAtEndOf_20 : decode cX0_gateAtEndOf 20 = .ok (.iload_n 2, 1) := by decide +kernel
theorem dX0_gateAtEndOf_21 : decode cX0_gateAtEndOf 21 = .ok (.if_icmp .ne 22, 3) := by decide +kernel
theorem dX0_gateAtEndOf_24 : decode cX0_gateAtEndOf 24 = .ok (.aload_n 0, 1) := by decide +kernel
theorem dX0_gateAtEndOf_25 : decode cX0_gateAtEndOf 25 = .ok (.getfield 13, 3) := by decide +kernel
theorem dX0_gateAtEndOf_28 : decode cX0_gateAtEndOf 28 = .ok (.iload 4, 2) := by decide +kernel
theorem dX0_gateAtEndOf_30 : decode cX0_gateAtEndOf 30 = .ok (.iaload, 1) := by decide +kernel
theorem dX0_gateAtEndOf_31 : decode cX0_gateAtEndOf 31 = .ok (.iload_n 1, 1) := by decide +kernel
theorem dX0_gateAtEndOf_32 : decode cX0_gateAtEndOf 32 = .ok (.if_icmp .gt 11, 3) := by decide +kernel
theorem dX0_gateAtEndOf_35 : decode cX0_gateAtEndOf 35 = .ok (.aload_n 0, 1) := by decide +kernel
theorem dX0_gateAtEndOf_36 : decode cX0_gateAtEndOf 36 = .ok (.getfield 16, 3) := by decide +kernel
theorem dX0_gateAtEndOf_39 : decode cX0_gateAtEndOf 39 = .ok (.iload 4, 2) := by decide +kernel
theorem dX0_gateAtEndOf_41 : decode cX0_gateAtEndOf 41 = .ok (.iaload, 1) := by decide +kernel
theorem dX0_gateAtEndOf_42 : decode cX0_gateAtEndOf 42 = .ok (.ireturn, 1) := by decide +kernel
theorem dX0_gateAtEndOf_43 : decode cX0_gateAtEndOf 43 = .ok (.iinc 4 (-1), 3) := by decide +kernel
theorem dX0_gateAtEndOf_46 : decode cX0_gateAtEndOf 46 = .ok (.goto (-38), 3) := by decide +kernel
theorem dX0_gateAtEndOf_49 : decode cX0_gateAtEndOf 49 = .ok (.iload_n 3, 1) := by decide +kernel
theorem dX0_gateAtEndOf_50 : decode cX0_gateAtEndOf 50 = .ok (.ireturn, 1) := by decide +kernel
theorem dX1_init_0 : decode cX1_init 0 = .ok (.aload_n 0, 1) := by decide +kernel
theorem dX1_init_1 : decode cX1_init 1 = .ok (.invokespecial 3, 3) := by decide +kernel
theorem dX1_init_4 : decode cX1_init 4 = .ok (.aload_n 0, 1) := by decide +kernel
theorem dX1_init_5 : decode cX1_init 5 = .ok (.bipush 100, 2) := by decide +kernel
theorem dX1_init_7 : decode cX1_init 7 = .ok (.newarray .int, 2) := by decide +kernel
theorem dX1_init_9 : decode cX1_init 9 = .ok (.putfield 11, 3) := by decide +kernel
theorem dX1_init_12 : decode cX1_init 12 = .ok (.aload_n 0, 1) := by decide +kernel
theorem dX1_init_13 : decode cX1_init 13 = .ok (.sipush 400, 3) := by decide +kernel
theorem dX1_init_16 : decode cX1_init 16 = .ok (.newarray .int, 2) := by decide +kernel
theorem dX1_init_18 : decode cX1_init 18 = .ok (.putfield 15, 3) := by decide +kernel
theorem dX1_init_21 : decode cX1_init 21 = .ok (.return_, 1) := by decide +kernel
theorem dX1_note_0 : decode cX1_note 0 = .ok (.aload_n 0, 1) := by decide +kernel
theorem dX1_note_1 : decode cX1_note 1 = .ok (.getfield 18, 3) := by decide +kernel
theorem dX1_note_4 : decode cX1_note 4 = .ok (.bipush 100, 2) := by decide +kernel
theorem dX1_note_6 : decode cX1_note 6 = .ok (.if_icmp .lt 4, 3) := by decide +kernel
theorem dX1_note_9 : decode cX1_note 9 = .ok (.return_, 1) := by decide +kernel
theorem dX1_note_10 : decode cX1_note 10 = .ok (.aload_n 0, 1) := by decide +kernel
theorem dX1_note_11 : decode cX1_note 11 = .ok (.getfield 11, 3) := by decide +kernel
theorem dX1_note_14 : decode cX1_note 14 = .ok (.aload_n 0, 1) := by decide +kernel
theorem dX1_note_15 : decode cX1_note 15 = .ok (.getfield 18, 3) := by decide +kernel
theorem dX1_note_18 : decode cX1_note 18 = .ok (.aload_n 1, 1) := by decide +kernel
theorem dX1_note_19 : decode cX1_note 19 = .ok (.invokevirtual 22, 3) := by decide +kernel
theorem dX1_note_22 : decode cX1_note 22 = .ok (.iastore, 1) := by decide +kernel
theorem dX1_note_23 : decode cX1_note 23 = .ok (.iconst 0, 1) := by decide +kernel
theorem dX1_note_24 : decode cX1_note 24 = .ok (.istore_n 2, 1) := by decide +kernel
theorem dX1_note_25 : decode cX1_note 25 = .ok (.iload_n 2, 1) := by decide +kernel
theorem dX1_note_26 : decode cX1_note 26 = .ok (.iconst 4, 1) := by decide +kernel
theorem dX1_note_27 : decode cX1_note 27 = .ok (.if_icmp .ge 31, 3) := by decide +kernel
theorem dX1_note_30 : decode cX1_note 30 = .ok (.aload_n 0, 1) := by decide +kernel
theorem dX1_note_31 : decode cX1_note 31 = .ok (.getfield 15, 3) := by decide +kernel
theorem dX1_note_34 : decode cX1_note 34 = .ok (.aload_n 0, 1) := by decide +kernel
theorem dX1_note_35 : decode cX1_note 35 = .ok (.getfield 18, 3) := by decide +kernel
theorem dX1_note_38 : decode cX1_note 38 = .ok (.iconst 4, 1) := by decide +kernel
theorem dX1_note_39 : decode cX1_note 39 = .ok (.imul, 1) := by decide +kernel
theorem dX1_note_40 : decode cX1_note 40 = .ok (.iload_n 2, 1) := by decide +kernel
theorem dX1_note_41 : decode cX1_note 41 = .ok (.iadd, 1) := by decide +kernel
theorem dX1_note_42 : decode cX1_note 42 = .ok (.aload_n 1, 1) := by decide +kernel
theorem dX1_note_43 : decode cX1_note 43 = .ok (.getfield 28, 3) := by decide +kernel
theorem dX1_note_46 : decode cX1_note 46 = .ok (.getfield 32, 3) := by decide +kernel
theorem dX1_note_49 : decode cX1_note 49 = .ok (.iload_n 2, 1) := by decide +kernel
theorem dX1_note_50 : decode cX1_note 50 = .ok (.iaload, 1) := by decide +kernel
theorem dX1_note_51 : decode cX1_note 51 = .ok (.iastore, 1) := by decide +kernel
theorem dX1_note_52 : decode cX1_note 52 = .ok (.iinc 2 1, 3) := by decide +kernel
theorem dX1_note_55 : decode cX1_note 55 = .ok (.goto (-30), 3) := by decide +kernel
theorem dX1_note_58 : decode cX1_note 58 = .ok (.aload_n 0, 1) := by decide +kernel
theorem dX1_note_59 : decode cX1_note 59 = .ok (.dup, 1) := by decide +kernel
theorem dX1_note_60 : decode cX1_note 60 = .ok (.getfield 18, 3) := by decide +kernel
theorem dX1_note_63 : decode cX1_note 63 = .ok (.iconst 1, 1) := by decide +kernel
theorem dX1_note_64 : decode cX1_note 64 = .ok (.iadd, 1) := by decide +kernel
theorem dX1_note_65 : decode cX1_note 65 = .ok (.putfield 18, 3) := by decide +kernel
theorem dX1_note_68 : decode cX1_note 68 = .ok (.return_, 1) := by decide +kernel
theorem dX1_placeOf_0 : decode cX1_placeOf 0 = .ok (.aload_n 0, 1) := by decide +kernel
theorem dX1_placeOf_1 : decode cX1_placeOf 1 = .ok (.getfield 15, 3) := by decide +kernel
theorem dX1_placeOf_4 : decode cX1_placeOf 4 = .ok (.iload_n 1, 1) := by decide +kernel
theorem dX1_placeOf_5 : decode cX1_placeOf 5 = .ok (.iconst 4, 1) := by decide +kernel
theorem dX1_placeOf_6 : decode cX1_placeOf 6 = .ok (.imul, 1) := by decide +kernel
theorem dX1_placeOf_7 : decode cX1_placeOf 7 = .ok (.iload_n 2, 1) := by decide +kernel
theorem dX1_placeOf_8 : decode cX1_placeOf 8 = .ok (.iadd, 1) := by decide +kernel
theorem dX1_placeOf_9 : decode cX1_placeOf 9 = .ok (.iaload, 1) := by decide +kernel
theorem dX1_placeOf_10 : decode cX1_placeOf 10 = .ok (.ireturn, 1) := by decide +kernel
theorem dX2_init_0 : decode cX2_init 0 = .ok (.aload_n 0, 1) := by decide +kernel
theorem dX2_init_1 : decode cX2_init 1 = .ok (.invokespecial 3, 3) := by decide +kernel
theorem dX2_init_4 : decode cX2_init 4 = .ok (.aload_n 0, 1) := by decide +kernel
theorem dX2_init_5 : decode cX2_init 5 = .ok (.bipush 100, 2) := by decide +kernel
theorem dX2_init_7 : decode cX2_init 7 = .ok (.newarray .boolean, 2) := by decide +kernel
theorem dX2_init_9 : decode cX2_init 9 = .ok (.putfield 9, 3) := by decide +kernel
theorem dX2_init_12 : decode cX2_init 12 = .ok (.aload_n 0, 1) := by decide +kernel
theorem dX2_init_13 : decode cX2_init 13 = .ok (.bipush 100, 2) := by decide +kernel
theorem dX2_init_15 : decode cX2_init 15 = .ok (.newarray .int, 2) := by decide +kernel
theorem dX2_init_17 : decode cX2_init 17 = .ok (.putfield 15, 3) := by decide +kernel
theorem dX2_init_20 : decode cX2_init 20 = .ok (.aload_n 0, 1) := by decide +kernel
theorem dX2_init_21 : decode cX2_init 21 = .ok (.aload_n 1, 1) := by decide +kernel
theorem dX2_init_22 : decode cX2_init 22 = .ok (.putfield 19, 3) := by decide +kernel
theorem dX2_init_25 : decode cX2_init 25 = .ok (.aload_n 0, 1) := by decide +kernel
theorem dX2_init_26 : decode cX2_init 26 = .ok (.aload_n 2, 1) := by decide +kernel
theorem dX2_init_27 : decode cX2_init 27 = .ok (.putfield 23, 3) := by decide +kernel
theorem dX2_init_30 : decode cX2_init 30 = .ok (.return_, 1) := by decide +kernel
theorem dX2_weighGates_0 : decode cX2_weighGates 0 = .ok (.iconst 0, 1) := by decide +kernel
theorem dX2_weighGates_1 : decode cX2_weighGates 1 = .ok (.istore_n 2, 1) := by decide +kernel
theorem dX2_weighGates_2 : decode cX2_weighGates 2 = .ok (.iload_n 2, 1) := by decide +kernel
theorem dX2_weighGates_3 : decode cX2_weighGates 3 = .ok (.aload_n 0, 1) := by decide +kernel
theorem dX2_weighGates_4 : decode cX2_weighGates 4 = .ok (.getfield 19, 3) := by decide +kernel
theorem dX2_weighGates_7 : decode cX2_weighGates 7 = .ok (.getfield 27, 3) := by decide +kernel
theorem dX2_weighGates_10 : decode cX2_weighGates 10 = .ok (.getfield 33, 3) := by decide +kernel
theorem dX2_weighGates_13 : decode cX2_weighGates 13 = .ok (.if_icmp .ge 21, 3) := by decide +kernel
theorem dX2_weighGates_16 : decode cX2_weighGates 16 = .ok (.aload_n 0, 1) := by decide +kernel
theorem dX2_weighGates_17 : decode cX2_weighGates 17 = .ok (.getfield 9, 3) := by decide +kernel
theorem dX2_weighGates_20 : decode cX2_weighGates 20 = .ok (.iload_n 2, 1) := by decide +kernel
theorem dX2_weighGates_21 : decode cX2_weighGates 21 = .ok (.aload_n 0, 1) := by decide +kernel
theorem dX2_weighGates_22 : decode cX2_weighGates 22 = .ok (.iload_n 1, 1) := by decide +kernel
theorem dX2_weighGates_23 : decode cX2_weighGates 23 = .ok (.iload_n 2, 1) := by decide +kernel
theorem dX2_weighGates_24 : decode cX2_weighGates 24 = .ok (.invokevirtual 39, 3) := by decide +kernel
theorem dX2_weighGates_27 : decode cX2_weighGates 27 = .ok (.bastore, 1) := by decide +kernel
theorem dX2_weighGates_28 : decode cX2_weighGates 28 = .ok (.iinc 2 1, 3) := by decide +kernel
theorem dX2_weighGates_31 : decode cX2_weighGates 31 = .ok (.goto (-29), 3) := by decide +kernel
theorem dX2_weighGates_34 : decode cX2_weighGates 34 = .ok (.return_, 1) := by decide +kernel
theorem dX2_isPossible_0 : decode cX2_isPossible 0 = .ok (.aload_n 0, 1) := by decide +kernel
theorem dX2_isPossible_1 : decode cX2_isPossible 1 = .ok (.getfield 19, 3) := by decide +kernel
theorem dX2_isPossible_4 : decode cX2_isPossible 4 = .ok (.iload_n 1, 1) := by decide +kernel
theorem dX2_isPossible_5 : decode cX2_isPossible 5 = .ok (.invokevirtual 43, 3) := by decide +kernel
theorem dX2_isPossible_8 : decode cX2_isPossible 8 = .ok (.istore_n 3, 1) := by decide +kernel
theorem dX2_isPossible_9 : decode cX2_isPossible 9 = .ok (.aload_n 0, 1) := by decide +kernel
theorem dX2_isPossible_10 : decode cX2_isPossible 10 = .ok (.getfield 19, 3) := by decide +kernel
theorem dX2_isPossible_13 : decode cX2_isPossible 13 = .ok (.getfield 47, 3) := by decide +kernel
theorem dX2_isPossible_16 : decode cX2_isPossible 16 = .ok (.iload_n 1, 1) := by decide +kernel
theorem dX2_isPossible_17 : decode cX2_isPossible 17 = .ok (.aaload, 1) := by decide +kernel
theorem dX2_isPossible_18 : decode cX2_isPossible 18 = .ok (.getfield 51, 3) := by decide +kernel
theorem dX2_isPossible_21 : decode cX2_isPossible 21 = .ok (.istore 4, 2) := by decide +kernel
theorem dX2_isPossible_23 : decode cX2_isPossible 23 = .ok (.iconst 0, 1) := by decide +kernel
theorem dX2_isPossible_24 : decode cX2_isPossible 24 = .ok (.istore 5, 2) := by decide +kernel
theorem dX2_isPossible_26 : decode cX2_isPossible 26 = .ok (.iload 5, 2) := by decide +kernel
theorem dX2_isPossible_28 : decode cX2_isPossible 28 = .ok (.aload_n 0, 1) := by decide +kernel
theorem dX2_isPossible_29 : decode cX2_isPossible 29 = .ok (.getfield 23, 3) := by decide +kernel
theorem dX2_isPossible_32 : decode cX2_isPossible 32 = .ok (.getfield 56, 3) := by decide +kernel
theorem dX2_isPossible_35 : decode cX2_isPossible 35 = .ok (.if_icmp .ge 109, 3) := by decide +kernel
theorem dX2_isPossible_38 : decode cX2_isPossible 38 = .ok (.aload_n 0, 1) := by decide +kernel
theorem dX2_isPossible_39 : decode cX2_isPossible 39 = .ok (.getfield 23, 3) := by decide +kernel
theorem dX2_isPossible_42 : decode cX2_isPossible 42 = .ok (.iload 5, 2) := by decide +kernel
theorem dX2_isPossible_44 : decode cX2_isPossible 44 = .ok (.iload_n 1, 1) := by decide +kernel
theorem dX2_isPossible_45 : decode cX2_isPossible 45 = .ok (.invokevirtual 61, 3) := by decide +kernel
theorem dX2_isPossible_48 : decode cX2_isPossible 48 = .ok (.istore 6, 2) := by decide +kernel
theorem dX2_isPossible_50 : decode cX2_isPossible 50 = .ok (.aload_n 0, 1) := by decide +kernel
theorem dX2_isPossible_51 : decode cX2_isPossible 51 = .ok (.getfield 19, 3) := by decide +kernel
theorem dX2_isPossible_54 : decode cX2_isPossible 54 = .ok (.getfield 27, 3) := by decide +kernel
theorem dX2_isPossible_57 : decode cX2_isPossible 57 = .ok (.iload 6, 2) := by decide +kernel
theorem dX2_isPossible_59 : decode cX2_isPossible 59 = .ok (.iload_n 2, 1) := by decide +kernel
theorem dX2_isPossible_60 : decode cX2_isPossible 60 = .ok (.invokevirtual 65, 3) := by decide +kernel
theorem dX2_isPossible_63 : decode cX2_isPossible 63 = .ok (.istore 7, 2) := by decide +kernel
theorem dX2_isPossible_65 : decode cX2_isPossible 65 = .ok (.iload 7, 2) := by decide +kernel
theorem dX2_isPossible_67 : decode cX2_isPossible 67 = .ok (.iload 4, 2) := by decide +kernel
theorem dX2_isPossible_69 : decode cX2_isPossible 69 = .ok (.if_icmp .gt 27, 3) := by decide +kernel
theorem dX2_isPossible_72 : decode cX2_isPossible 72 = .ok (.aload_n 0, 1) := by decide +kernel
theorem dX2_isPossible_73 : decode cX2_isPossible 73 = .ok (.getfield 23, 3) := by decide +kernel
theorem dX2_isPossible_76 : decode cX2_isPossible 76 = .ok (.getfield 68, 3) := by decide +kernel
theorem dX2_isPossible_79 : decode cX2_isPossible 79 = .ok (.iload 5, 2) := by decide +kernel
theorem dX2_isPossible_81 : decode cX2_isPossible 81 = .ok (.iaload, 1) := by decide +kernel
theorem dX2_isPossible_82 : decode cX2_isPossible 82 = .ok (.aload_n 0, 1) := by decide +kernel
theorem dX2_isPossible_83 : decode cX2_isPossible 83 = .ok (.getfield 23, 3) := by decide +kernel
theorem dX2_isPossible_86 : decode cX2_isPossible 86 = .ok (.getfield 71, 3) := by decide +kernel
theorem dX2_isPossible_89 : decode cX2_isPossible 89 = .ok (.isub, 1) := by decide +kernel
theorem dX2_isPossible_90 : decode cX2_isPossible 90 = .ok (.iload_n 3, 1) := by decide +kernel
theorem dX2_isPossible_91 : decode cX2_isPossible 91 = .ok (.if_icmp .le 5, 3) := by decide +kernel
theorem dX2_isPossible_94 : decode cX2_isPossible 94 = .ok (.iconst 0, 1) := by decide +kernel
theorem dX2_isPossible_95 : decode cX2_isPossible 95 = .ok (.ireturn, 1) := by decide +kernel
theorem dX2_isPossible_96 : decode cX2_isPossible 96 = .ok (.iload 7, 2) := by decide +kernel
theorem dX2_isPossible_98 : decode cX2_isPossible 98 = .ok (.iload 4, 2) := by decide +kernel
theorem dX2_isPossible_100 : decode cX2_isPossible 100 = .ok (.iconst 1, 1) := by decide +kernel
theorem dX2_isPossible_101 : decode cX2_isPossible 101 = .ok (.iadd, 1) := by decide +kernel
theorem dX2_isPossible_102 : decode cX2_isPossible 102 = .ok (.if_icmp .le 36, 3) := by decide +kernel
theorem dX2_isPossible_105 : decode cX2_isPossible 105 = .ok (.aload_n 0, 1) := by decide +kernel
theorem dX2_isPossible_106 : decode cX2_isPossible 106 = .ok (.getfield 23, 3) := by decide +kernel
theorem dX2_isPossible_109 : decode cX2_isPossible 109 = .ok (.getfield 68, 3) := by decide +kernel
theorem dX2_isPossible_112 : decode cX2_isPossible 112 = .ok (.iload 5, 2) := by decide +kernel
theorem dX2_isPossible_114 : decode cX2_isPossible 114 = .ok (.iaload, 1) := by decide +kernel
theorem dX2_isPossible_115 : decode cX2_isPossible 115 = .ok (.aload_n 0, 1) := by decide +kernel
theorem dX2_isPossible_116 : decode cX2_isPossible 116 = .ok (.getfield 23, 3) := by decide +kernel
theorem dX2_isPossible_119 : decode cX2_isPossible 119 = .ok (.getfield 71, 3) := by decide +kernel
theorem dX2_isPossible_122 : decode cX2_isPossible 122 = .ok (.iadd, 1) := by decide +kernel
theorem dX2_isPossible_123 : decode cX2_isPossible 123 = .ok (.aload_n 0, 1) := by decide +kernel
theorem dX2_isPossible_124 : decode cX2_isPossible 124 = .ok (.getfield 19, 3) := by decide +kernel
theorem dX2_isPossible_127 : decode cX2_isPossible 127 = .ok (.iload_n 1, 1) := by decide +kernel
theorem dX2_isPossible_128 : decode cX2_isPossible 128 = .ok (.iload 6, 2) := by decide +kernel
theorem dX2_isPossible_130 : decode cX2_isPossible 130 = .ok (.invokevirtual 74, 3) := by decide +kernel
theorem dX2_isPossible_133 : decode cX2_isPossible 133 = .ok (.if_icmp .ge 5, 3) := by decide +kernel
theorem dX2_isPossible_136 : decode cX2_isPossible 136 = .ok (.iconst 0, 1) := by decide +kernel
theorem dX2_isPossible_137 : decode cX2_isPossible 137 = .ok (.ireturn, 1) := by decide +kernel
theorem dX2_isPossible_138 : decode cX2_isPossible 138 = .ok (.iinc 5 1, 3) := by decide +kernel
theorem dX2_isPossible_141 : decode cX2_isPossible 141 = .ok (.goto (-115), 3) := by decide +kernel
theorem dX2_isPossible_144 : decode cX2_isPossible 144 = .ok (.iconst 1, 1) := by decide +kernel
theorem dX2_isPossible_145 : decode cX2_isPossible 145 = .ok (.ireturn, 1) := by decide +kernel
theorem dX2_countPossible_0 : decode cX2_countPossible 0 = .ok (.iconst 0, 1) := by decide +kernel
theorem dX2_countPossible_1 : decode cX2_countPossible 1 = .ok (.istore_n 1, 1) := by decide +kernel
theorem dX2_countPossible_2 : decode cX2_countPossible 2 = .ok (.iconst 0, 1) := by decide +kernel
theorem dX2_countPossible_3 : decode cX2_countPossible 3 = .ok (.istore_n 2, 1) := by decide +kernel
theorem dX2_countPossible_4 : decode cX2_countPossible 4 = .ok (.iload_n 2, 1) := by decide +kernel
theorem dX2_countPossible_5 : decode cX2_countPossible 5 = .ok (.aload_n 0, 1) := by decide +kernel
theorem dX2_countPossible_6 : decode cX2_countPossible 6 = .ok (.getfield 19, 3) := by decide +kernel
theorem dX2_countPossible_9 : decode cX2_countPossible 9 = .ok (.getfield 27, 3) := by decide +kernel
theorem dX2_countPossible_12 : decode cX2_countPossible 12 = .ok (.getfield 33, 3) := by decide +kernel
theorem dX2_countPossible_15 : decode cX2_countPossible 15 = .ok (.if_icmp .ge 26, 3) := by decide +kernel
theorem dX2_countPossible_18 : decode cX2_countPossible 18 = .ok (.iload_n 1, 1) := by decide +kernel
theorem dX2_countPossible_19 : decode cX2_countPossible 19 = .ok (.aload_n 0, 1) := by decide +kernel
theorem dX2_countPossible_20 : decode cX2_countPossible 20 = .ok (.getfield 9, 3) := by decide +kernel
theorem dX2_countPossible_23 : decode cX2_countPossible 23 = .ok (.iload_n 2, 1) := by decide +kernel
theorem dX2_countPossible_24 : decode cX2_countPossible 24 = .ok (.baload, 1) := by decide +kernel
theorem dX2_countPossible_25 : decode cX2_countPossible 25 = .ok (.ifCond .eq 7, 3) := by decide +kernel
theorem dX2_countPossible_28 : decode cX2_countPossible 28 = .ok (.iconst 1, 1) := by decide +kernel
theorem dX2_countPossible_29 : decode cX2_countPossible 29 = .ok (.goto 4, 3) := by decide +kernel
theorem dX2_countPossible_32 : decode cX2_countPossible 32 = .ok (.iconst 0, 1) := by decide +kernel
theorem dX2_countPossible_33 : decode cX2_countPossible 33 = .ok (.iadd, 1) := by decide +kernel
theorem dX2_countPossible_34 : decode cX2_countPossible 34 = .ok (.istore_n 1, 1) := by decide +kernel
theorem dX2_countPossible_35 : decode cX2_countPossible 35 = .ok (.iinc 2 1, 3) := by decide +kernel
theorem dX2_countPossible_38 : decode cX2_countPossible 38 = .ok (.goto (-34), 3) := by decide +kernel
theorem dX2_countPossible_41 : decode cX2_countPossible 41 = .ok (.iload_n 1, 1) := by decide +kernel
theorem dX2_countPossible_42 : decode cX2_countPossible 42 = .ok (.ireturn, 1) := by decide +kernel
theorem dX2_possibleAt_0 : decode cX2_possibleAt 0 = .ok (.iload_n 1, 1) := by decide +kernel
theorem dX2_possibleAt_1 : decode cX2_possibleAt 1 = .ok (.istore_n 2, 1) := by decide +kernel
theorem dX2_possibleAt_2 : decode cX2_possibleAt 2 = .ok (.iconst 0, 1) := by decide +kernel
theorem dX2_possibleAt_3 : decode cX2_possibleAt 3 = .ok (.istore_n 3, 1) := by decide +kernel
theorem dX2_possibleAt_4 : decode cX2_possibleAt 4 = .ok (.iload_n 3, 1) := by decide +kernel
theorem dX2_possibleAt_5 : decode cX2_possibleAt 5 = .ok (.aload_n 0, 1) := by decide +kernel
theorem dX2_possibleAt_6 : decode cX2_possibleAt 6 = .ok (.getfield 19, 3) := by decide +kernel
theorem dX2_possibleAt_9 : decode cX2_possibleAt 9 = .ok (.getfield 27, 3) := by decide +kernel
theorem dX2_possibleAt_12 : decode cX2_possibleAt 12 = .ok (.getfield 33, 3) := by decide +kernel
theorem dX2_possibleAt_15 : decode cX2_possibleAt 15 = .ok (.if_icmp .ge 45, 3) := by decide +kernel
theorem dX2_possibleAt_18 : decode cX2_possibleAt 18 = .ok (.iload_n 2, 1) := by decide +kernel
theorem dX2_possibleAt_19 : decode cX2_possibleAt 19 = .ok (.ifCond .lt 41, 3) := by decide +kernel
theorem dX2_possibleAt_22 : decode cX2_possibleAt 22 = .ok (.aload_n 0, 1) := by decide +kernel
theorem dX2_possibleAt_23 : decode cX2_possibleAt 23 = .ok (.getfield 9, 3) := by decide +kernel
theorem dX2_possibleAt_26 : decode cX2_possibleAt 26 = .ok (.iload_n 3, 1) := by decide +kernel
theorem dX2_possibleAt_27 : decode cX2_possibleAt 27 = .ok (.baload, 1) := by decide +kernel
theorem dX2_possibleAt_28 : decode cX2_possibleAt 28 = .ok (.ifCond .eq 9, 3) := by decide +kernel
theorem dX2_possibleAt_31 : decode cX2_possibleAt 31 = .ok (.iload_n 2, 1) := by decide +kernel
theorem dX2_possibleAt_32 : decode cX2_possibleAt 32 = .ok (.ifCond .ne 5, 3) := by decide +kernel
theorem dX2_possibleAt_35 : decode cX2_possibleAt 35 = .ok (.iload_n 3, 1) := by decide +kernel
theorem dX2_possibleAt_36 : decode cX2_possibleAt 36 = .ok (.ireturn, 1) := by decide +kernel
theorem dX2_possibleAt_37 : decode cX2_possibleAt 37 = .ok (.iload_n 2, 1) := by decide +kernel
theorem dX2_possibleAt_38 : decode cX2_possibleAt 38 = .ok (.aload_n 0, 1) := by decide +kernel
theorem dX2_possibleAt_39 : decode cX2_possibleAt 39 = .ok (.getfield 9, 3) := by decide +kernel
theorem dX2_possibleAt_42 : decode cX2_possibleAt 42 = .ok (.iload_n 3, 1) := by decide +kernel
theorem dX2_possibleAt_43 : decode cX2_possibleAt 43 = .ok (.baload, 1) := by decide +kernel
theorem dX2_possibleAt_44 : decode cX2_possibleAt 44 = .ok (.ifCond .eq 7, 3) := by decide +kernel
theorem dX2_possibleAt_47 : decode cX2_possibleAt 47 = .ok (.iconst 1, 1) := by decide +kernel
theorem dX2_possibleAt_48 : decode cX2_possibleAt 48 = .ok (.goto 4, 3) := by decide +kernel
theorem dX2_possibleAt_51 : decode cX2_possibleAt 51 = .ok (.iconst 0, 1) := by decide +kernel
theorem dX2_possibleAt_52 : decode cX2_possibleAt 52 = .ok (.isub, 1) := by decide +kernel
theorem dX2_possibleAt_53 : decode cX2_possibleAt 53 = .ok (.istore_n 2, 1) := by decide +kernel
theorem dX2_possibleAt_54 : decode cX2_possibleAt 54 = .ok (.iinc 3 1, 3) := by decide +kernel
theorem dX2_possibleAt_57 : decode cX2_possibleAt 57 = .ok (.goto (-53), 3) := by decide +kernel
theorem dX2_possibleAt_60 : decode cX2_possibleAt 60 = .ok (.iconst (-1), 1) := by decide +kernel
theorem dX2_possibleAt_61 : decode cX2_possibleAt 61 = .ok (.ireturn, 1) := by decide +kernel
theorem dX2_layOut_0 : decode cX2_layOut 0 = .ok (.aload_n 0, 1) := by decide +kernel
theorem dX2_layOut_1 : decode cX2_layOut 1 = .ok (.iload_n 1, 1) := by decide +kernel
theorem dX2_layOut_2 : decode cX2_layOut 2 = .ok (.invokevirtual 77, 3) := by decide +kernel
theorem dX2_layOut_5 : decode cX2_layOut 5 = .ok (.aload_n 0, 1) := by decide +kernel
theorem dX2_layOut_6 : decode cX2_layOut 6 = .ok (.aload_n 0, 1) := by decide +kernel
theorem dX2_layOut_7 : decode cX2_layOut 7 = .ok (.getfield 19, 3) := by decide +kernel
theorem dX2_layOut_10 : decode cX2_layOut 10 = .ok (.getfield 47, 3) := by decide +kernel
theorem dX2_layOut_13 : decode cX2_layOut 13 = .ok (.iload_n 1, 1) := by decide +kernel
theorem dX2_layOut_14 : decode cX2_layOut 14 = .ok (.aaload, 1) := by decide +kernel
theorem dX2_layOut_15 : decode cX2_layOut 15 = .ok (.getfield 51, 3) := by decide +kernel
theorem dX2_layOut_18 : decode cX2_layOut 18 = .ok (.putfield 81, 3) := by decide +kernel
theorem dX2_layOut_21 : decode cX2_layOut 21 = .ok (.aload_n 0, 1) := by decide +kernel
theorem dX2_layOut_22 : decode cX2_layOut 22 = .ok (.iconst 0, 1) := by decide +kernel
theorem dX2_layOut_23 : decode cX2_layOut 23 = .ok (.putfield 82, 3) := by decide +kernel
theorem dX2_layOut_26 : decode cX2_layOut 26 = .ok (.aload_n 0, 1) := by decide +kernel
theorem dX2_layOut_27 : decode cX2_layOut 27 = .ok (.invokevirtual 85, 3) := by decide +kernel
theorem dX2_layOut_30 : decode cX2_layOut 30 = .ok (.ifCond .ne 4, 3) := by decide +kernel
theorem dX2_layOut_33 : decode cX2_layOut 33 = .ok (.return_, 1) := by decide +kernel
theorem dX2_layOut_34 : decode cX2_layOut 34 = .ok (.aload_n 0, 1) := by decide +kernel
theorem dX2_layOut_35 : decode cX2_layOut 35 = .ok (.getfield 19, 3) := by decide +kernel
theorem dX2_layOut_38 : decode cX2_layOut 38 = .ok (.getfield 27, 3) := by decide +kernel
theorem dX2_layOut_41 : decode cX2_layOut 41 = .ok (.getfield 33, 3) := by decide +kernel
theorem dX2_layOut_44 : decode cX2_layOut 44 = .ok (.istore_n 2, 1) := by decide +kernel
theorem dX2_layOut_45 : decode cX2_layOut 45 = .ok (.sipush 1000, 3) := by decide +kernel
theorem dX2_layOut_48 : decode cX2_layOut 48 = .ok (.istore_n 3, 1) := by decide +kernel
theorem dX2_layOut_49 : decode cX2_layOut 49 = .ok (.iconst 0, 1) := by decide +kernel
theorem dX2_layOut_50 : decode cX2_layOut 50 = .ok (.istore 4, 2) := by decide +kernel
theorem dX2_layOut_52 : decode cX2_layOut 52 = .ok (.iconst 0, 1) := by decide +kernel
theorem dX2_layOut_53 : decode cX2_layOut 53 = .ok (.istore 5, 2) := by decide +kernel
theorem dX2_layOut_55 : decode cX2_layOut 55 = .ok (.iload 5, 2) := by decide +kernel
theorem dX2_layOut_57 : decode cX2_layOut 57 = .ok (.iload_n 2, 1) := by decide +kernel
theorem dX2_layOut_58 : decode cX2_layOut 58 = .ok (.if_icmp .ge 38, 3) := by decide +kernel
theorem dX2_layOut_61 : decode cX2_layOut 61 = .ok (.iconst 1, 1) := by decide +kernel
theorem dX2_layOut_62 : decode cX2_layOut 62 = .ok (.aload_n 0, 1) := by decide +kernel
theorem dX2_layOut_63 : decode cX2_layOut 63 = .ok (.iload 5, 2) := by decide +kernel
theorem dX2_layOut_65 : decode cX2_layOut 65 = .ok (.aload_n 0, 1) := by decide +kernel
theorem dX2_layOut_66 : decode cX2_layOut 66 = .ok (.iload 5, 2) := by decide +kernel
theorem dX2_layOut_68 : decode cX2_layOut 68 = .ok (.invokevirtual 89, 3) := by decide +kernel
theorem dX2_layOut_71 : decode cX2_layOut 71 = .ok (.invokevirtual 92, 3) := by decide +kernel
theorem dX2_layOut_74 : decode cX2_layOut 74 = .ok (.iadd, 1) := by decide +kernel
theorem dX2_layOut_75 : decode cX2_layOut 75 = .ok (.istore 6, 2) := by decide +kernel
theorem dX2_layOut_77 : decode cX2_layOut 77 = .ok (.iload 6, 2) := by decide +kernel
theorem dX2_layOut_79 : decode cX2_layOut 79 = .ok (.iload_n 3, 1) := by decide +kernel
theorem dX2_layOut_80 : decode cX2_layOut 80 = .ok (.if_icmp .ge 10, 3) := by decide +kernel
theorem dX2_layOut_83 : decode cX2_layOut 83 = .ok (.iload 6, 2) := by decide +kernel
theorem dX2_layOut_85 : decode cX2_layOut 85 = .ok (.istore_n 3, 1) := by decide +kernel
theorem dX2_layOut_86 : decode cX2_layOut 86 = .ok (.iload 5, 2) := by decide +kernel
theorem dX2_layOut_88 : decode cX2_layOut 88 = .ok (.istore 4, 2) := by decide +kernel
theorem dX2_layOut_90 : decode cX2_layOut 90 = .ok (.iinc 5 1, 3) := by decide +kernel
theorem dX2_layOut_93 : decode cX2_layOut 93 = .ok (.goto (-38), 3) := by decide +kernel
theorem dX2_layOut_96 : decode cX2_layOut 96 = .ok (.aload_n 0, 1) := by decide +kernel
theorem dX2_layOut_97 : decode cX2_layOut 97 = .ok (.getfield 15, 3) := by decide +kernel
theorem dX2_layOut_100 : decode cX2_layOut 100 = .ok (.iconst 0, 1) := by decide +kernel
theorem dX2_layOut_101 : decode cX2_layOut 101 = .ok (.iload 4, 2) := by decide +kernel
theorem dX2_layOut_103 : decode cX2_layOut 103 = .ok (.iastore, 1) := by decide +kernel
theorem dX2_layOut_104 : decode cX2_layOut 104 = .ok (.aload_n 0, 1) := by decide +kernel
theorem dX2_layOut_105 : decode cX2_layOut 105 = .ok (.iconst 1, 1) := by decide +kernel
theorem dX2_layOut_106 : decode cX2_layOut 106 = .ok (.putfield 82, 3) := by decide +kernel
theorem dX2_layOut_109 : decode cX2_layOut 109 = .ok (.aload_n 0, 1) := by decide +kernel
theorem dX2_layOut_110 : decode cX2_layOut 110 = .ok (.getfield 82, 3) := by decide +kernel
theorem dX2_layOut_113 : decode cX2_layOut 113 = .ok (.iload_n 3, 1) := by decide +kernel
theorem dX2_layOut_114 : decode cX2_layOut 114 = .ok (.if_icmp .ge 62, 3) := by decide +kernel
theorem dX2_layOut_117 : decode cX2_layOut 117 = .ok (.aload_n 0, 1) := by decide +kernel
theorem dX2_layOut_118 : decode cX2_layOut 118 = .ok (.getfield 82, 3) := by decide +kernel
theorem dX2_layOut_121 : decode cX2_layOut 121 = .ok (.iload_n 2, 1) := by decide +kernel
theorem dX2_layOut_122 : decode cX2_layOut 122 = .ok (.if_icmp .ge 54, 3) := by decide +kernel
theorem dX2_layOut_125 : decode cX2_layOut 125 = .ok (.aload_n 0, 1) := by decide +kernel
theorem dX2_layOut_126 : decode cX2_layOut 126 = .ok (.getfield 15, 3) := by decide +kernel
theorem dX2_layOut_129 : decode cX2_layOut 129 = .ok (.aload_n 0, 1) := by decide +kernel
theorem dX2_layOut_130 : decode cX2_layOut 130 = .ok (.getfield 82, 3) := by decide +kernel
theorem dX2_layOut_133 : decode cX2_layOut 133 = .ok (.aload_n 0, 1) := by decide +kernel
theorem dX2_layOut_134 : decode cX2_layOut 134 = .ok (.aload_n 0, 1) := by decide +kernel
theorem dX2_layOut_135 : decode cX2_layOut 135 = .ok (.getfield 15, 3) := by decide +kernel
theorem dX2_layOut_138 : decode cX2_layOut 138 = .ok (.aload_n 0, 1) := by decide +kernel
theorem dX2_layOut_139 : decode cX2_layOut 139 = .ok (.getfield 82, 3) := by decide +kernel
theorem dX2_layOut_142 : decode cX2_layOut 142 = .ok (.iconst 1, 1) := by decide +kernel
theorem dX2_layOut_143 : decode cX2_layOut 143 = .ok (.isub, 1) := by decide +kernel
theorem dX2_layOut_144 : decode cX2_layOut 144 = .ok (.iaload, 1) := by decide +kernel
theorem dX2_layOut_145 : decode cX2_layOut 145 = .ok (.aload_n 0, 1) := by decide +kernel
theorem dX2_layOut_146 : decode cX2_layOut 146 = .ok (.iload 4, 2) := by decide +kernel
theorem dX2_layOut_148 : decode cX2_layOut 148 = .ok (.invokevirtual 89, 3) := by decide +kernel
theorem dX2_layOut_151 : decode cX2_layOut 151 = .ok (.iload_n 3, 1) := by decide +kernel
theorem dX2_layOut_152 : decode cX2_layOut 152 = .ok (.aload_n 0, 1) := by decide +kernel
theorem dX2_layOut_153 : decode cX2_layOut 153 = .ok (.getfield 82, 3) := by decide +kernel
theorem dX2_layOut_156 : decode cX2_layOut 156 = .ok (.isub, 1) := by decide +kernel
theorem dX2_layOut_157 : decode cX2_layOut 157 = .ok (.iconst 1, 1) := by decide +kernel
theorem dX2_layOut_158 : decode cX2_layOut 158 = .ok (.isub, 1) := by decide +kernel
theorem dX2_layOut_159 : decode cX2_layOut 159 = .ok (.invokevirtual 95, 3) := by decide +kernel
theorem dX2_layOut_162 : decode cX2_layOut 162 = .ok (.iastore, 1) := by decide +kernel
theorem dX2_layOut_163 : decode cX2_layOut 163 = .ok (.aload_n 0, 1) := by decide +kernel
theorem dX2_layOut_164 : decode cX2_layOut 164 = .ok (.dup, 1) := by decide +kernel
theorem dX2_layOut_165 : decode cX2_layOut 165 = .ok (.getfield 82, 3) := by decide +kernel
theorem dX2_layOut_168 : decode cX2_layOut 168 = .ok (.iconst 1, 1) := by decide +kernel
theorem dX2_layOut_169 : decode cX2_layOut 169 = .ok (.iadd, 1) := by decide +kernel
theorem dX2_layOut_170 : decode cX2_layOut 170 = .ok (.putfield 82, 3) := by decide +kernel
theorem dX2_layOut_173 : decode cX2_layOut 173 = .ok (.goto (-64), 3) := by decide +kernel
theorem dX2_layOut_176 : decode cX2_layOut 176 = .ok (.return_, 1) := by decide +kernel
theorem dX2_lastFrom_0 : decode cX2_lastFrom 0 = .ok (.iload_n 1, 1) := by decide +kernel
theorem dX2_lastFrom_1 : decode cX2_lastFrom 1 = .ok (.aload_n 0, 1) := by decide +kernel
theorem dX2_lastFrom_2 : decode cX2_lastFrom 2 = .ok (.getfield 19, 3) := by decide +kernel
theorem dX2_lastFrom_5 : decode cX2_lastFrom 5 = .ok (.getfield 27, 3) := by decide +kernel
theorem dX2_lastFrom_8 : decode cX2_lastFrom 8 = .ok (.getfield 33, 3) := by decide +kernel
theorem dX2_lastFrom_11 : decode cX2_lastFrom 11 = .ok (.iadd, 1) := by decide +kernel
theorem dX2_lastFrom_12 : decode cX2_lastFrom 12 = .ok (.aload_n 0, 1) := by decide +kernel
theorem dX2_lastFrom_13 : decode cX2_lastFrom 13 = .ok (.getfield 81, 3) := by decide +kernel
theorem dX2_lastFrom_16 : decode cX2_lastFrom 16 = .ok (.isub, 1) := by decide +kernel
theorem dX2_lastFrom_17 : decode cX2_lastFrom 17 = .ok (.iconst 1, 1) := by decide +kernel
theorem dX2_lastFrom_18 : decode cX2_lastFrom 18 = .ok (.isub, 1) := by decide +kernel
theorem dX2_lastFrom_19 : decode cX2_lastFrom 19 = .ok (.ireturn, 1) := by decide +kernel
theorem dX2_firstOpenBehind_0 : decode cX2_firstOpenBehind 0 = .ok (.iload_n 1, 1) := by decide +kernel
theorem dX2_firstOpenBehind_1 : decode cX2_firstOpenBehind 1 = .ok (.aload_n 0, 1) := by decide +kernel
theorem dX2_firstOpenBehind_2 : decode cX2_firstOpenBehind 2 = .ok (.getfield 81, 3) := by decide +kernel
theorem dX2_firstOpenBehind_5 : decode cX2_firstOpenBehind 5 = .ok (.iadd, 1) := by decide +kernel
theorem dX2_firstOpenBehind_6 : decode cX2_firstOpenBehind 6 = .ok (.iconst 1, 1) := by decide +kernel
theorem dX2_firstOpenBehind_7 : decode cX2_firstOpenBehind 7 = .ok (.iadd, 1) := by decide +kernel
theorem dX2_firstOpenBehind_8 : decode cX2_firstOpenBehind 8 = .ok (.istore_n 3, 1) := by decide +kernel
theorem dX2_firstOpenBehind_9 : decode cX2_firstOpenBehind 9 = .ok (.iload_n 3, 1) := by decide +kernel
theorem dX2_firstOpenBehind_10 : decode cX2_firstOpenBehind 10 = .ok (.iload_n 2, 1) := by decide +kernel
theorem dX2_firstOpenBehind_11 : decode cX2_firstOpenBehind 11 = .ok (.if_icmp .gt 30, 3) := by decide +kernel
theorem dX2_firstOpenBehind_14 : decode cX2_firstOpenBehind 14 = .ok (.aload_n 0, 1) := by decide +kernel
theorem dX2_firstOpenBehind_15 : decode cX2_firstOpenBehind 15 = .ok (.getfield 9, 3) := by decide +kernel
theorem dX2_firstOpenBehind_18 : decode cX2_firstOpenBehind 18 = .ok (.aload_n 0, 1) := by decide +kernel
theorem dX2_firstOpenBehind_19 : decode cX2_firstOpenBehind 19 = .ok (.getfield 19, 3) := by decide +kernel
theorem dX2_firstOpenBehind_22 : decode cX2_firstOpenBehind 22 = .ok (.getfield 27, 3) := by decide +kernel
theorem dX2_firstOpenBehind_25 : decode cX2_firstOpenBehind 25 = .ok (.iload_n 3, 1) := by decide +kernel
theorem dX2_firstOpenBehind_26 : decode cX2_firstOpenBehind 26 = .ok (.invokevirtual 99, 3) := by decide +kernel
theorem dX2_firstOpenBehind_29 : decode cX2_firstOpenBehind 29 = .ok (.baload, 1) := by decide +kernel
theorem dX2_firstOpenBehind_30 : decode cX2_firstOpenBehind 30 = .ok (.ifCond .eq 5, 3) := by decide +kernel
theorem dX2_firstOpenBehind_33 : decode cX2_firstOpenBehind 33 = .ok (.iload_n 3, 1) := by decide +kernel
theorem dX2_firstOpenBehind_34 : decode cX2_firstOpenBehind 34 = .ok (.ireturn, 1) := by decide +kernel
theorem dX2_firstOpenBehind_35 : decode cX2_firstOpenBehind 35 = .ok (.iinc 3 1, 3) := by decide +kernel
theorem dX2_firstOpenBehind_38 : decode cX2_firstOpenBehind 38 = .ok (.goto (-29), 3) := by decide +kernel
theorem dX2_firstOpenBehind_41 : decode cX2_firstOpenBehind 41 = .ok (.iconst (-1), 1) := by decide +kernel
theorem dX2_firstOpenBehind_42 : decode cX2_firstOpenBehind 42 = .ok (.ireturn, 1) := by decide +kernel
theorem dX2_fewestBehind_0 : decode cX2_fewestBehind 0 = .ok (.iload_n 1, 1) := by decide +kernel
theorem dX2_fewestBehind_1 : decode cX2_fewestBehind 1 = .ok (.istore_n 3, 1) := by decide +kernel
theorem dX2_fewestBehind_2 : decode cX2_fewestBehind 2 = .ok (.iconst 0, 1) := by decide +kernel
theorem dX2_fewestBehind_3 : decode cX2_fewestBehind 3 = .ok (.istore 4, 2) := by decide +kernel
theorem dX2_fewestBehind_5 : decode cX2_fewestBehind 5 = .ok (.iload 4, 2) := by decide +kernel
theorem dX2_fewestBehind_7 : decode cX2_fewestBehind 7 = .ok (.bipush 100, 2) := by decide +kernel
theorem dX2_fewestBehind_9 : decode cX2_fewestBehind 9 = .ok (.if_icmp .gt 57, 3) := by decide +kernel
theorem dX2_fewestBehind_12 : decode cX2_fewestBehind 12 = .ok (.aload_n 0, 1) := by decide +kernel
theorem dX2_fewestBehind_13 : decode cX2_fewestBehind 13 = .ok (.iload_n 3, 1) := by decide +kernel
theorem dX2_fewestBehind_14 : decode cX2_fewestBehind 14 = .ok (.iload_n 2, 1) := by decide +kernel
theorem dX2_fewestBehind_15 : decode cX2_fewestBehind 15 = .ok (.invokevirtual 102, 3) := by decide +kernel
theorem dX2_fewestBehind_18 : decode cX2_fewestBehind 18 = .ok (.istore 5, 2) := by decide +kernel
theorem dX2_fewestBehind_20 : decode cX2_fewestBehind 20 = .ok (.iload 5, 2) := by decide +kernel
theorem dX2_fewestBehind_22 : decode cX2_fewestBehind 22 = .ok (.iconst (-1), 1) := by decide +kernel
theorem dX2_fewestBehind_23 : decode cX2_fewestBehind 23 = .ok (.if_icmp .ne 6, 3) := by decide +kernel
theorem dX2_fewestBehind_26 : decode cX2_fewestBehind 26 = .ok (.iload 4, 2) := by decide +kernel
theorem dX2_fewestBehind_28 : decode cX2_fewestBehind 28 = .ok (.ireturn, 1) := by decide +kernel
theorem dX2_fewestBehind_29 : decode cX2_fewestBehind 29 = .ok (.iload 5, 2) := by decide +kernel
theorem dX2_fewestBehind_31 : decode cX2_fewestBehind 31 = .ok (.aload_n 0, 1) := by decide +kernel
theorem dX2_fewestBehind_32 : decode cX2_fewestBehind 32 = .ok (.getfield 81, 3) := by decide +kernel
theorem dX2_fewestBehind_35 : decode cX2_fewestBehind 35 = .ok (.isub, 1) := by decide +kernel
theorem dX2_fewestBehind_36 : decode cX2_fewestBehind 36 = .ok (.aload_n 0, 1) := by decide +kernel
theorem dX2_fewestBehind_37 : decode cX2_fewestBehind 37 = .ok (.getfield 19, 3) := by decide +kernel
theorem dX2_fewestBehind_40 : decode cX2_fewestBehind 40 = .ok (.getfield 27, 3) := by decide +kernel
theorem dX2_fewestBehind_43 : decode cX2_fewestBehind 43 = .ok (.getfield 33, 3) := by decide +kernel
theorem dX2_fewestBehind_46 : decode cX2_fewestBehind 46 = .ok (.if_icmp .lt 7, 3) := by decide +kernel
theorem dX2_fewestBehind_49 : decode cX2_fewestBehind 49 = .ok (.sipush 1000, 3) := by decide +kernel
theorem dX2_fewestBehind_52 : decode cX2_fewestBehind 52 = .ok (.ireturn, 1) := by decide +kernel
theorem dX2_fewestBehind_53 : decode cX2_fewestBehind 53 = .ok (.aload_n 0, 1) := by decide +kernel
theorem dX2_fewestBehind_54 : decode cX2_fewestBehind 54 = .ok (.iload 5, 2) := by decide +kernel
theorem dX2_fewestBehind_56 : decode cX2_fewestBehind 56 = .ok (.invokevirtual 105, 3) := by decide +kernel
theorem dX2_fewestBehind_59 : decode cX2_fewestBehind 59 = .ok (.istore_n 3, 1) := by decide +kernel
theorem dX2_fewestBehind_60 : decode cX2_fewestBehind 60 = .ok (.iinc 4 1, 3) := by decide +kernel
theorem dX2_fewestBehind_63 : decode cX2_fewestBehind 63 = .ok (.goto (-58), 3) := by decide +kernel
theorem dX2_fewestBehind_66 : decode cX2_fewestBehind 66 = .ok (.sipush 1000, 3) := by decide +kernel
theorem dX2_fewestBehind_69 : decode cX2_fewestBehind 69 = .ok (.ireturn, 1) := by decide +kernel
theorem dX2_farthestFor_0 : decode cX2_farthestFor 0 = .ok (.iload_n 1, 1) := by decide +kernel
theorem dX2_farthestFor_1 : decode cX2_farthestFor 1 = .ok (.aload_n 0, 1) := by decide +kernel
theorem dX2_farthestFor_2 : decode cX2_farthestFor 2 = .ok (.getfield 81, 3) := by decide +kernel
theorem dX2_farthestFor_5 : decode cX2_farthestFor 5 = .ok (.iadd, 1) := by decide +kernel
theorem dX2_farthestFor_6 : decode cX2_farthestFor 6 = .ok (.aload_n 0, 1) := by decide +kernel
theorem dX2_farthestFor_7 : decode cX2_farthestFor 7 = .ok (.getfield 19, 3) := by decide +kernel
theorem dX2_farthestFor_10 : decode cX2_farthestFor 10 = .ok (.getfield 27, 3) := by decide +kernel
theorem dX2_farthestFor_13 : decode cX2_farthestFor 13 = .ok (.getfield 33, 3) := by decide +kernel
theorem dX2_farthestFor_16 : decode cX2_farthestFor 16 = .ok (.iconst 1, 1) := by decide +kernel
theorem dX2_farthestFor_17 : decode cX2_farthestFor 17 = .ok (.isub, 1) := by decide +kernel
theorem dX2_farthestFor_18 : decode cX2_farthestFor 18 = .ok (.invokestatic 108, 3) := by decide +kernel
theorem dX2_farthestFor_21 : decode cX2_farthestFor 21 = .ok (.ireturn, 1) := by decide +kernel
theorem dX2_nextPlace_0 : decode cX2_nextPlace 0 = .ok (.aload_n 0, 1) := by decide +kernel
theorem dX2_nextPlace_1 : decode cX2_nextPlace 1 = .ok (.iload_n 1, 1) := by decide +kernel
theorem dX2_nextPlace_2 : decode cX2_nextPlace 2 = .ok (.iload_n 2, 1) := by decide +kernel
theorem dX2_nextPlace_3 : decode cX2_nextPlace 3 = .ok (.invokevirtual 102, 3) := by decide +kernel
theorem dX2_nextPlace_6 : decode cX2_nextPlace 6 = .ok (.istore 4, 2) := by decide +kernel
theorem dX2_nextPlace_8 : decode cX2_nextPlace 8 = .ok (.aload_n 0, 1) := by decide +kernel
theorem dX2_nextPlace_9 : decode cX2_nextPlace 9 = .ok (.iload 4, 2) := by decide +kernel
theorem dX2_nextPlace_11 : decode cX2_nextPlace 11 = .ok (.invokevirtual 105, 3) := by decide +kernel
theorem dX2_nextPlace_14 : decode cX2_nextPlace 14 = .ok (.istore 5, 2) := by decide +kernel
theorem dX2_nextPlace_16 : decode cX2_nextPlace 16 = .ok (.iload 4, 2) := by decide +kernel
theorem dX2_nextPlace_18 : decode cX2_nextPlace 18 = .ok (.aload_n 0, 1) := by decide +kernel
theorem dX2_nextPlace_19 : decode cX2_nextPlace 19 = .ok (.getfield 81, 3) := by decide +kernel
theorem dX2_nextPlace_22 : decode cX2_nextPlace 22 = .ok (.isub, 1) := by decide +kernel
theorem dX2_nextPlace_23 : decode cX2_nextPlace 23 = .ok (.istore 6, 2) := by decide +kernel
theorem dX2_nextPlace_25 : decode cX2_nextPlace 25 = .ok (.iload 6, 2) := by decide +kernel
theorem dX2_nextPlace_27 : decode cX2_nextPlace 27 = .ok (.iload 5, 2) := by decide +kernel
theorem dX2_nextPlace_29 : decode cX2_nextPlace 29 = .ok (.if_icmp .ge 23, 3) := by decide +kernel
theorem dX2_nextPlace_32 : decode cX2_nextPlace 32 = .ok (.aload_n 0, 1) := by decide +kernel
theorem dX2_nextPlace_33 : decode cX2_nextPlace 33 = .ok (.iload 6, 2) := by decide +kernel
theorem dX2_nextPlace_35 : decode cX2_nextPlace 35 = .ok (.iload_n 2, 1) := by decide +kernel
theorem dX2_nextPlace_36 : decode cX2_nextPlace 36 = .ok (.invokevirtual 92, 3) := by decide +kernel
theorem dX2_nextPlace_39 : decode cX2_nextPlace 39 = .ok (.iload_n 3, 1) := by decide +kernel
theorem dX2_nextPlace_40 : decode cX2_nextPlace 40 = .ok (.if_icmp .gt 6, 3) := by decide +kernel
theorem dX2_nextPlace_43 : decode cX2_nextPlace 43 = .ok (.iload 6, 2) := by decide +kernel
theorem dX2_nextPlace_45 : decode cX2_nextPlace 45 = .ok (.ireturn, 1) := by decide +kernel
theorem dX2_nextPlace_46 : decode cX2_nextPlace 46 = .ok (.iinc 6 1, 3) := by decide +kernel
theorem dX2_nextPlace_49 : decode cX2_nextPlace 49 = .ok (.goto (-24), 3) := by decide +kernel
theorem dX2_nextPlace_52 : decode cX2_nextPlace 52 = .ok (.iload 5, 2) := by decide +kernel
theorem dX2_nextPlace_54 : decode cX2_nextPlace 54 = .ok (.ireturn, 1) := by decide +kernel
theorem dX3_init_0 : decode cX3_init 0 = .ok (.aload_n 0, 1) := by decide +kernel
theorem dX3_init_1 : decode cX3_init 1 = .ok (.invokespecial 3, 3) := by decide +kernel
theorem dX3_init_4 : decode cX3_init 4 = .ok (.aload_n 0, 1) := by decide +kernel
theorem dX3_init_5 : decode cX3_init 5 = .ok (.new 9, 3) := by decide +kernel
theorem dX3_init_8 : decode cX3_init 8 = .ok (.dup, 1) := by decide +kernel
theorem dX3_init_9 : decode cX3_init 9 = .ok (.invokespecial 11, 3) := by decide +kernel
theorem dX3_init_12 : decode cX3_init 12 = .ok (.putfield 12, 3) := by decide +kernel
theorem dX3_init_15 : decode cX3_init 15 = .ok (.aload_n 0, 1) := by decide +kernel
theorem dX3_init_16 : decode cX3_init 16 = .ok (.bipush 60, 2) := by decide +kernel
theorem dX3_init_18 : decode cX3_init 18 = .ok (.newarray .int, 2) := by decide +kernel
theorem dX3_init_20 : decode cX3_init 20 = .ok (.putfield 18, 3) := by decide +kernel
theorem dX3_init_23 : decode cX3_init 23 = .ok (.aload_n 0, 1) := by decide +kernel
theorem dX3_init_24 : decode cX3_init 24 = .ok (.bipush 60, 2) := by decide +kernel
theorem dX3_init_26 : decode cX3_init 26 = .ok (.newarray .int, 2) := by decide +kernel
theorem dX3_init_28 : decode cX3_init 28 = .ok (.putfield 22, 3) := by decide +kernel
theorem dX3_init_31 : decode cX3_init 31 = .ok (.aload_n 0, 1) := by decide +kernel
theorem dX3_init_32 : decode cX3_init 32 = .ok (.bipush 60, 2) := by decide +kernel
theorem dX3_init_34 : decode cX3_init 34 = .ok (.newarray .int, 2) := by decide +kernel
theorem dX3_init_36 : decode cX3_init 36 = .ok (.putfield 25, 3) := by decide +kernel
theorem dX3_init_39 : decode cX3_init 39 = .ok (.aload_n 0, 1) := by decide +kernel
theorem dX3_init_40 : decode cX3_init 40 = .ok (.bipush 60, 2) := by decide +kernel
theorem dX3_init_42 : decode cX3_init 42 = .ok (.newarray .int, 2) := by decide +kernel
theorem dX3_init_44 : decode cX3_init 44 = .ok (.putfield 28, 3) := by decide +kernel
theorem dX3_init_47 : decode cX3_init 47 = .ok (.aload_n 0, 1) := by decide +kernel
theorem dX3_init_48 : decode cX3_init 48 = .ok (.bipush 120, 2) := by decide +kernel
theorem dX3_init_50 : decode cX3_init 50 = .ok (.newarray .int, 2) := by decide +kernel
theorem dX3_init_52 : decode cX3_init 52 = .ok (.putfield 31, 3) := by decide +kernel
theorem dX3_init_55 : decode cX3_init 55 = .ok (.aload_n 0, 1) := by decide +kernel
theorem dX3_init_56 : decode cX3_init 56 = .ok (.bipush 120, 2) := by decide +kernel
theorem dX3_init_58 : decode cX3_init 58 = .ok (.newarray .int, 2) := by decide +kernel
theorem dX3_init_60 : decode cX3_init 60 = .ok (.putfield 34, 3) := by decide +kernel
theorem dX3_init_63 : decode cX3_init 63 = .ok (.aload_n 0, 1) := by decide +kernel
theorem dX3_init_64 : decode cX3_init 64 = .ok (.iconst 5, 1) := by decide +kernel
theorem dX3_init_65 : decode cX3_init 65 = .ok (.newarray .int, 2) := by decide +kernel
theorem dX3_init_67 : decode cX3_init 67 = .ok (.putfield 37, 3) := by decide +kernel
theorem dX3_init_70 : decode cX3_init 70 = .ok (.aload_n 0, 1) := by decide +kernel
theorem dX3_init_71 : decode cX3_init 71 = .ok (.iconst (-1), 1) := by decide +kernel
theorem dX3_init_72 : decode cX3_init 72 = .ok (.putfield 40, 3) := by decide +kernel
theorem dX3_init_75 : decode cX3_init 75 = .ok (.return_, 1) := by decide +kernel
theorem dX3_readText_0 : decode cX3_readText 0 = .ok (.aload_n 0, 1) := by decide +kernel
theorem dX3_readText_1 : decode cX3_readText 1 = .ok (.getfield 12, 3) := by decide +kernel
theorem dX3_readText_4 : decode cX3_readText 4 = .ok (.aload_n 1, 1) := by decide +kernel
theorem dX3_readText_5 : decode cX3_readText 5 = .ok (.iload_n 2, 1) := by decide +kernel
theorem dX3_readText_6 : decode cX3_readText 6 = .ok (.invokevirtual 44, 3) := by decide +kernel
theorem dX3_readText_9 : decode cX3_readText 9 = .ok (.aload_n 0, 1) := by decide +kernel
theorem dX3_readText_10 : decode cX3_readText 10 = .ok (.iconst 0, 1) := by decide +kernel
theorem dX3_readText_11 : decode cX3_readText 11 = .ok (.putfield 48, 3) := by decide +kernel
theorem dX3_readText_14 : decode cX3_readText 14 = .ok (.aload_n 0, 1) := by decide +kernel
theorem dX3_readText_15 : decode cX3_readText 15 = .ok (.iconst 0, 1) := by decide +kernel
theorem dX3_readText_16 : decode cX3_readText 16 = .ok (.putfield 51, 3) := by decide +kernel
theorem dX3_readText_19 : decode cX3_readText 19 = .ok (.aload_n 0, 1) := by decide +kernel
theorem dX3_readText_20 : decode cX3_readText 20 = .ok (.iconst 0, 1) := by decide +kernel
theorem dX3_readText_21 : decode cX3_readText 21 = .ok (.putfield 54, 3) := by decide +kernel
theorem dX3_readText_24 : decode cX3_readText 24 = .ok (.aload_n 0, 1) := by decide +kernel
theorem dX3_readText_25 : decode cX3_readText 25 = .ok (.iconst 0, 1) := by decide +kernel
theorem dX3_readText_26 : decode cX3_readText 26 = .ok (.putfield 57, 3) := by decide +kernel
theorem dX3_readText_29 : decode cX3_readText 29 = .ok (.aload_n 0, 1) := by decide +kernel
theorem dX3_readText_30 : decode cX3_readText 30 = .ok (.iconst (-1), 1) := by decide +kernel
theorem dX3_readText_31 : decode cX3_readText 31 = .ok (.putfield 40, 3) := by decide +kernel
theorem dX3_readText_34 : decode cX3_readText 34 = .ok (.aload_n 0, 1) := by decide +kernel
theorem dX3_readText_35 : decode cX3_readText 35 = .ok (.iconst 0, 1) := by decide +kernel
theorem dX3_readText_36 : decode cX3_readText 36 = .ok (.putfield 60, 3) := by decide +kernel
theorem dX3_readText_39 : decode cX3_readText 39 = .ok (.aload_n 0, 1) := by decide +kernel
theorem dX3_readText_40 : decode cX3_readText 40 = .ok (.aload_n 0, 1) := by decide +kernel
theorem dX3_readText_41 : decode cX3_readText 41 = .ok (.getfield 12, 3) := by decide +kernel
theorem dX3_readText_44 : decode cX3_readText 44 = .ok (.getfield 63, 3) := by decide +kernel
theorem dX3_readText_47 : decode cX3_readText 47 = .ok (.iconst 0, 1) := by decide +kernel
theorem dX3_readText_48 : decode cX3_readText 48 = .ok (.iaload, 1) := by decide +kernel
theorem dX3_readText_49 : decode cX3_readText 49 = .ok (.putfield 66, 3) := by decide +kernel
theorem dX3_readText_52 : decode cX3_readText 52 = .ok (.iconst 0, 1) := by decide +kernel
theorem dX3_readText_53 : decode cX3_readText 53 = .ok (.istore_n 3, 1) := by decide +kernel
theorem dX3_readText_54 : decode cX3_readText 54 = .ok (.iload_n 3, 1) := by decide +kernel
theorem dX3_readText_55 : decode cX3_readText 55 = .ok (.aload_n 0, 1) := by decide +kernel
theorem dX3_readText_56 : decode cX3_readText 56 = .ok (.getfield 12, 3) := by decide +kernel
theorem dX3_readText_59 : decode cX3_readText 59 = .ok (.getfield 69, 3) := by decide +kernel
theorem dX3_readText_62 : decode cX3_readText 62 = .ok (.if_icmp .ge 43, 3) := by decide +kernel
theorem dX3_readText_65 : decode cX3_readText 65 = .ok (.aload_n 0, 1) := by decide +kernel
theorem dX3_readText_66 : decode cX3_readText 66 = .ok (.getfield 57, 3) := by decide +kernel
theorem dX3_readText_69 : decode cX3_readText 69 = .ok (.ifCond .ne 36, 3) := by decide +kernel
theorem dX3_readText_72 : decode cX3_readText 72 = .ok (.aload_n 0, 1) := by decide +kernel
theorem dX3_readText_73 : decode cX3_readText 73 = .ok (.getfield 66, 3) := by decide +kernel
theorem dX3_readText_76 : decode cX3_readText 76 = .ok (.ifCond .eq 29, 3) := by decide +kernel
theorem dX3_readText_79 : decode cX3_readText 79 = .ok (.aload_n 0, 1) := by decide +kernel
theorem dX3_readText_80 : decode cX3_readText 80 = .ok (.getfield 66, 3) := by decide +kernel
theorem dX3_readText_83 : decode cX3_readText 83 = .ok (.bipush 41, 2) := by decide +kernel
theorem dX3_readText_85 : decode cX3_readText 85 = .ok (.if_icmp .ne 10, 3) := by decide +kernel
theorem dX3_readText_88 : decode cX3_readText 88 = .ok (.aload_n 0, 1) := by decide +kernel
theorem dX3_readText_89 : decode cX3_readText 89 = .ok (.invokevirtual 70, 3) := by decide +kernel
theorem dX3_readText_92 : decode cX3_readText 92 = .ok (.goto 7, 3) := by decide +kernel
theorem dX3_readText_95 : decode cX3_readText 95 = .ok (.aload_n 0, 1) := by decide +kernel
theorem dX3_readText_96 : decode cX3_readText 96 = .ok (.invokevirtual 73, 3) := by decide +kernel
theorem dX3_readText_99 : decode cX3_readText 99 = .ok (.iinc 3 1, 3) := by decide +kernel
theorem dX3_readText_102 : decode cX3_readText 102 = .ok (.goto (-48), 3) := by decide +kernel
theorem dX3_readText_105 : decode cX3_readText 105 = .ok (.aload_n 0, 1) := by decide +kernel
theorem dX3_readText_106 : decode cX3_readText 106 = .ok (.getfield 51, 3) := by decide +kernel
theorem dX3_readText_109 : decode cX3_readText 109 = .ok (.ifCond .le 8, 3) := by decide +kernel
theorem dX3_readText_112 : decode cX3_readText 112 = .ok (.aload_n 0, 1) := by decide +kernel
theorem dX3_readText_113 : decode cX3_readText 113 = .ok (.iconst 1, 1) := by decide +kernel
theorem dX3_readText_114 : decode cX3_readText 114 = .ok (.invokevirtual 76, 3) := by decide +kernel
theorem dX3_readText_117 : decode cX3_readText 117 = .ok (.return_, 1) := by decide +kernel
theorem dX3_refuse_0 : decode cX3_refuse 0 = .ok (.aload_n 0, 1) := by decide +kernel
theorem dX3_refuse_1 : decode cX3_refuse 1 = .ok (.getfield 57, 3) := by decide +kernel
theorem dX3_refuse_4 : decode cX3_refuse 4 = .ok (.ifCond .ne 24, 3) := by decide +kernel
theorem dX3_refuse_7 : decode cX3_refuse 7 = .ok (.aload_n 0, 1) := by decide +kernel
theorem dX3_refuse_8 : decode cX3_refuse 8 = .ok (.iload_n 1, 1) := by decide +kernel
theorem dX3_refuse_9 : decode cX3_refuse 9 = .ok (.putfield 57, 3) := by decide +kernel
theorem dX3_refuse_12 : decode cX3_refuse 12 = .ok (.aload_n 0, 1) := by decide +kernel
theorem dX3_refuse_13 : decode cX3_refuse 13 = .ok (.aload_n 0, 1) := by decide +kernel
theorem dX3_refuse_14 : decode cX3_refuse 14 = .ok (.getfield 12, 3) := by decide +kernel
theorem dX3_refuse_17 : decode cX3_refuse 17 = .ok (.getfield 80, 3) := by decide +kernel
theorem dX3_refuse_20 : decode cX3_refuse 20 = .ok (.aload_n 0, 1) := by decide +kernel
theorem dX3_refuse_21 : decode cX3_refuse 21 = .ok (.getfield 60, 3) := by decide +kernel
theorem dX3_refuse_24 : decode cX3_refuse 24 = .ok (.iaload, 1) := by decide +kernel
theorem dX3_refuse_25 : decode cX3_refuse 25 = .ok (.putfield 40, 3) := by decide +kernel
theorem dX3_refuse_28 : decode cX3_refuse 28 = .ok (.return_, 1) := by decide +kernel
theorem dX3_goOn_0 : decode cX3_goOn 0 = .ok (.aload_n 0, 1) := by decide +kernel
theorem dX3_goOn_1 : decode cX3_goOn 1 = .ok (.getfield 60, 3) := by decide +kernel
theorem dX3_goOn_4 : decode cX3_goOn 4 = .ok (.iconst 1, 1) := by decide +kernel
theorem dX3_goOn_5 : decode cX3_goOn 5 = .ok (.iadd, 1) := by decide +kernel
theorem dX3_goOn_6 : decode cX3_goOn 6 = .ok (.aload_n 0, 1) := by decide +kernel
theorem dX3_goOn_7 : decode cX3_goOn 7 = .ok (.getfield 12, 3) := by decide +kernel
theorem dX3_goOn_10 : decode cX3_goOn 10 = .ok (.getfield 69, 3) := by decide +kernel
theorem dX3_goOn_13 : decode cX3_goOn 13 = .ok (.if_icmp .ge 13, 3) := by decide +kernel
theorem dX3_goOn_16 : decode cX3_goOn 16 = .ok (.aload_n 0, 1) := by decide +kernel
theorem dX3_goOn_17 : decode cX3_goOn 17 = .ok (.dup, 1) := by decide +kernel
theorem dX3_goOn_18 : decode cX3_goOn 18 = .ok (.getfield 60, 3) := by decide +kernel
theorem dX3_goOn_21 : decode cX3_goOn 21 = .ok (.iconst 1, 1) := by decide +kernel
theorem dX3_goOn_22 : decode cX3_goOn 22 = .ok (.iadd, 1) := by decide +kernel
theorem dX3_goOn_23 : decode cX3_goOn 23 = .ok (.putfield 60, 3) := by decide +kernel
theorem dX3_goOn_26 : decode cX3_goOn 26 = .ok (.aload_n 0, 1) := by decide +kernel
theorem dX3_goOn_27 : decode cX3_goOn 27 = .ok (.aload_n 0, 1) := by decide +kernel
theorem dX3_goOn_28 : decode cX3_goOn 28 = .ok (.getfield 12, 3) := by decide +kernel
theorem dX3_goOn_31 : decode cX3_goOn 31 = .ok (.getfield 63, 3) := by decide +kernel
theorem dX3_goOn_34 : decode cX3_goOn 34 = .ok (.aload_n 0, 1) := by decide +kernel
theorem dX3_goOn_35 : decode cX3_goOn 35 = .ok (.getfield 60, 3) := by decide +kernel
theorem dX3_goOn_38 : decode cX3_goOn 38 = .ok (.iaload, 1) := by decide +kernel
theorem dX3_goOn_39 : decode cX3_goOn 39 = .ok (.putfield 66, 3) := by decide +kernel
theorem dX3_goOn_42 : decode cX3_goOn 42 = .ok (.return_, 1) := by decide +kernel
theorem dX3_readStatement_0 : decode cX3_readStatement 0 = .ok (.aload_n 0, 1) := by decide +kernel
theorem dX3_readStatement_1 : decode cX3_readStatement 1 = .ok (.getfield 66, 3) := by decide +kernel
theorem dX3_readStatement_4 : decode cX3_readStatement 4 = .ok (.iconst 4, 1) := by decide +kernel
theorem dX3_readStatement_5 : decode cX3_readStatement 5 = .ok (.if_icmp .lt 12, 3) := by decide +kernel
theorem dX3_readStatement_8 : decode cX3_readStatement 8 = .ok (.aload_n 0, 1) := by decide +kernel
theorem dX3_readStatement_9 : decode cX3_readStatement 9 = .ok (.getfield 66, 3) := by decide +kernel
theorem dX3_readStatement_12 : decode cX3_readStatement 12 = .ok (.bipush 10, 2) := by decide +kernel
theorem dX3_readStatement_14 : decode cX3_readStatement 14 = .ok (.if_icmp .le 9, 3) := by decide +kernel
theorem dX3_readStatement_17 : decode cX3_readStatement 17 = .ok (.aload_n 0, 1) := by decide +kernel
theorem dX3_readStatement_18 : decode cX3_readStatement 18 = .ok (.iconst 1, 1) := by decide +kernel
theorem dX3_readStatement_19 : decode cX3_readStatement 19 = .ok (.invokevirtual 76, 3) := by decide +kernel
theorem dX3_readStatement_22 : decode cX3_readStatement 22 = .ok (.return_, 1) := by decide +kernel
theorem dX3_readStatement_23 : decode cX3_readStatement 23 = .ok (.aload_n 0, 1) := by decide +kernel
theorem dX3_readStatement_24 : decode cX3_readStatement 24 = .ok (.getfield 48, 3) := by decide +kernel
theorem dX3_readStatement_27 : decode cX3_readStatement 27 = .ok (.bipush 60, 2) := by decide +kernel
theorem dX3_readStatement_29 : decode cX3_readStatement 29 = .ok (.if_icmp .lt 9, 3) := by decide +kernel
theorem dX3_readStatement_32 : decode cX3_readStatement 32 = .ok (.aload_n 0, 1) := by decide +kernel
theorem dX3_readStatement_33 : decode cX3_readStatement 33 = .ok (.iconst 2, 1) := by decide +kernel
theorem dX3_readStatement_34 : decode cX3_readStatement 34 = .ok (.invokevirtual 76, 3) := by decide +kernel
theorem dX3_readStatement_37 : decode cX3_readStatement 37 = .ok (.return_, 1) := by decide +kernel
theorem dX3_readStatement_38 : decode cX3_readStatement 38 = .ok (.aload_n 0, 1) := by decide +kernel
theorem dX3_readStatement_39 : decode cX3_readStatement 39 = .ok (.getfield 48, 3) := by decide +kernel
theorem dX3_readStatement_42 : decode cX3_readStatement 42 = .ok (.istore_n 1, 1) := by decide +kernel
theorem dX3_readStatement_43 : decode cX3_readStatement 43 = .ok (.aload_n 0, 1) := by decide +kernel
theorem dX3_readStatement_44 : decode cX3_readStatement 44 = .ok (.getfield 18, 3) := by decide +kernel
theorem dX3_readStatement_47 : decode cX3_readStatement 47 = .ok (.iload_n 1, 1) := by decide +kernel
theorem dX3_readStatement_48 : decode cX3_readStatement 48 = .ok (.aload_n 0, 1) := by decide +kernel
theorem dX3_readStatement_49 : decode cX3_readStatement 49 = .ok (.getfield 66, 3) := by decide +kernel
theorem dX3_readStatement_52 : decode cX3_readStatement 52 = .ok (.iastore, 1) := by decide +kernel
theorem dX3_readStatement_53 : decode cX3_readStatement 53 = .ok (.aload_n 0, 1) := by decide +kernel
theorem dX3_readStatement_54 : decode cX3_readStatement 54 = .ok (.dup, 1) := by decide +kernel
theorem dX3_readStatement_55 : decode cX3_readStatement 55 = .ok (.getfield 48, 3) := by decide +kernel
theorem dX3_readStatement_58 : decode cX3_readStatement 58 = .ok (.iconst 1, 1) := by decide +kernel
theorem dX3_readStatement_59 : decode cX3_readStatement 59 = .ok (.iadd, 1) := by decide +kernel
theorem dX3_readStatement_60 : decode cX3_readStatement 60 = .ok (.putfield 48, 3) := by decide +kernel
theorem dX3_readStatement_63 : decode cX3_readStatement 63 = .ok (.aload_n 0, 1) := by decide +kernel
theorem dX3_readStatement_64 : decode cX3_readStatement 64 = .ok (.getfield 28, 3) := by decide +kernel
theorem dX3_readStatement_67 : decode cX3_readStatement 67 = .ok (.iload_n 1, 1) := by decide +kernel
theorem dX3_readStatement_68 : decode cX3_readStatement 68 = .ok (.aload_n 0, 1) := by decide +kernel
theorem dX3_readStatement_69 : decode cX3_readStatement 69 = .ok (.getfield 48, 3) := by decide +kernel
theorem dX3_readStatement_72 : decode cX3_readStatement 72 = .ok (.iastore, 1) := by decide +kernel
theorem dX3_readStatement_73 : decode cX3_readStatement 73 = .ok (.aload_n 0, 1) := by decide +kernel
theorem dX3_readStatement_74 : decode cX3_readStatement 74 = .ok (.invokevirtual 83, 3) := by decide +kernel
theorem dX3_readStatement_77 : decode cX3_readStatement 77 = .ok (.aload_n 0, 1) := by decide +kernel
theorem dX3_readStatement_78 : decode cX3_readStatement 78 = .ok (.iload_n 1, 1) := by decide +kernel
theorem dX3_readStatement_79 : decode cX3_readStatement 79 = .ok (.invokevirtual 86, 3) := by decide +kernel
theorem dX3_readStatement_82 : decode cX3_readStatement 82 = .ok (.aload_n 0, 1) := by decide +kernel
theorem dX3_readStatement_83 : decode cX3_readStatement 83 = .ok (.getfield 18, 3) := by decide +kernel
theorem dX3_readStatement_86 : decode cX3_readStatement 86 = .ok (.iload_n 1, 1) := by decide +kernel
theorem dX3_readStatement_87 : decode cX3_readStatement 87 = .ok (.iaload, 1) := by decide +kernel
theorem dX3_readStatement_88 : decode cX3_readStatement 88 = .ok (.bipush 9, 2) := by decide +kernel
theorem dX3_readStatement_90 : decode cX3_readStatement 90 = .ok (.if_icmp .ge 12, 3) := by decide +kernel
theorem dX3_readStatement_93 : decode cX3_readStatement 93 = .ok (.aload_n 0, 1) := by decide +kernel
theorem dX3_readStatement_94 : decode cX3_readStatement 94 = .ok (.bipush 59, 2) := by decide +kernel
theorem dX3_readStatement_96 : decode cX3_readStatement 96 = .ok (.invokevirtual 89, 3) := by decide +kernel
theorem dX3_readStatement_99 : decode cX3_readStatement 99 = .ok (.goto 8, 3) := by decide +kernel
theorem dX3_readStatement_102 : decode cX3_readStatement 102 = .ok (.aload_n 0, 1) := by decide +kernel
theorem dX3_readStatement_103 : decode cX3_readStatement 103 = .ok (.iload_n 1, 1) := by decide +kernel
theorem dX3_readStatement_104 : decode cX3_readStatement 104 = .ok (.invokevirtual 93, 3) := by decide +kernel
theorem dX3_readStatement_107 : decode cX3_readStatement 107 = .ok (.return_, 1) := by decide +kernel
theorem dX3_readRest_0 : decode cX3_readRest 0 = .ok (.aload_n 0, 1) := by decide +kernel
theorem dX3_readRest_1 : decode cX3_readRest 1 = .ok (.getfield 18, 3) := by decide +kernel
theorem dX3_readRest_4 : decode cX3_readRest 4 = .ok (.iload_n 1, 1) := by decide +kernel
theorem dX3_readRest_5 : decode cX3_readRest 5 = .ok (.iaload, 1) := by decide +kernel
theorem dX3_readRest_6 : decode cX3_readRest 6 = .ok (.tableswitch 133 4 10 #[42, 42, 65, 133, 133, 75, 91], 42) := by decide +kernel
theorem dX3_readRest_48 : decode cX3_readRest 48 = .ok (.aload_n 0, 1) := by decide +kernel
theorem dX3_readRest_49 : decode cX3_readRest 49 = .ok (.getfield 22, 3) := by decide +kernel
theorem dX3_readRest_52 : decode cX3_readRest 52 = .ok (.iload_n 1, 1) := by decide +kernel
theorem dX3_readRest_53 : decode cX3_readRest 53 = .ok (.aload_n 0, 1) := by decide +kernel
theorem dX3_readRest_54 : decode cX3_readRest 54 = .ok (.iconst 1, 1) := by decide +kernel
theorem dX3_readRest_55 : decode cX3_readRest 55 = .ok (.bipush 9, 2) := by decide +kernel
theorem dX3_readRest_57 : decode cX3_readRest 57 = .ok (.invokevirtual 96, 3) := by decide +kernel
theorem dX3_readRest_60 : decode cX3_readRest 60 = .ok (.iastore, 1) := by decide +kernel
theorem dX3_readRest_61 : decode cX3_readRest 61 = .ok (.aload_n 0, 1) := by decide +kernel
theorem dX3_readRest_62 : decode cX3_readRest 62 = .ok (.iconst 2, 1) := by decide +kernel
theorem dX3_readRest_63 : decode cX3_readRest 63 = .ok (.iload_n 1, 1) := by decide +kernel
theorem dX3_readRest_64 : decode cX3_readRest 64 = .ok (.imul, 1) := by decide +kernel
theorem dX3_readRest_65 : decode cX3_readRest 65 = .ok (.invokevirtual 100, 3) := by decide +kernel
theorem dX3_readRest_68 : decode cX3_readRest 68 = .ok (.goto 71, 3) := by decide +kernel
theorem dX3_readRest_71 : decode cX3_readRest 71 = .ok (.aload_n 0, 1) := by decide +kernel
theorem dX3_readRest_72 : decode cX3_readRest 72 = .ok (.iconst 2, 1) := by decide +kernel
theorem dX3_readRest_73 : decode cX3_readRest 73 = .ok (.iload_n 1, 1) := by decide +kernel
theorem dX3_readRest_74 : decode cX3_readRest 74 = .ok (.imul, 1) := by decide +kernel
theorem dX3_readRest_75 : decode cX3_readRest 75 = .ok (.invokevirtual 100, 3) := by decide +kernel
theorem dX3_readRest_78 : decode cX3_readRest 78 = .ok (.goto 61, 3) := by decide +kernel
theorem dX3_readRest_81 : decode cX3_readRest 81 = .ok (.aload_n 0, 1) := by decide +kernel
theorem dX3_readRest_82 : decode cX3_readRest 82 = .ok (.getfield 22, 3) := by decide +kernel
theorem dX3_readRest_85 : decode cX3_readRest 85 = .ok (.iload_n 1, 1) := by decide +kernel
theorem dX3_readRest_86 : decode cX3_readRest 86 = .ok (.aload_n 0, 1) := by decide +kernel
theorem dX3_readRest_87 : decode cX3_readRest 87 = .ok (.iconst 0, 1) := by decide +kernel
theorem dX3_readRest_88 : decode cX3_readRest 88 = .ok (.bipush 99, 2) := by decide +kernel
theorem dX3_readRest_90 : decode cX3_readRest 90 = .ok (.invokevirtual 96, 3) := by decide +kernel
theorem dX3_readRest_93 : decode cX3_readRest 93 = .ok (.iastore, 1) := by decide +kernel
theorem dX3_readRest_94 : decode cX3_readRest 94 = .ok (.goto 45, 3) := by decide +kernel
theorem dX3_readRest_97 : decode cX3_readRest 97 = .ok (.aload_n 0, 1) := by decide +kernel
theorem dX3_readRest_98 : decode cX3_readRest 98 = .ok (.getfield 25, 3) := by decide +kernel
theorem dX3_readRest_101 : decode cX3_readRest 101 = .ok (.iload_n 1, 1) := by decide +kernel
theorem dX3_readRest_102 : decode cX3_readRest 102 = .ok (.aload_n 0, 1) := by decide +kernel
theorem dX3_readRest_103 : decode cX3_readRest 103 = .ok (.invokevirtual 103, 3) := by decide +kernel
theorem dX3_readRest_106 : decode cX3_readRest 106 = .ok (.iastore, 1) := by decide +kernel
theorem dX3_readRest_107 : decode cX3_readRest 107 = .ok (.aload_n 0, 1) := by decide +kernel
theorem dX3_readRest_108 : decode cX3_readRest 108 = .ok (.iconst 2, 1) := by decide +kernel
theorem dX3_readRest_109 : decode cX3_readRest 109 = .ok (.iload_n 1, 1) := by decide +kernel
theorem dX3_readRest_110 : decode cX3_readRest 110 = .ok (.imul, 1) := by decide +kernel
theorem dX3_readRest_111 : decode cX3_readRest 111 = .ok (.invokevirtual 100, 3) := by decide +kernel
theorem dX3_readRest_114 : decode cX3_readRest 114 = .ok (.aload_n 0, 1) := by decide +kernel
theorem dX3_readRest_115 : decode cX3_readRest 115 = .ok (.iconst 2, 1) := by decide +kernel
theorem dX3_readRest_116 : decode cX3_readRest 116 = .ok (.iload_n 1, 1) := by decide +kernel
theorem dX3_readRest_117 : decode cX3_readRest 117 = .ok (.imul, 1) := by decide +kernel
theorem dX3_readRest_118 : decode cX3_readRest 118 = .ok (.iconst 1, 1) := by decide +kernel
theorem dX3_readRest_119 : decode cX3_readRest 119 = .ok (.iadd, 1) := by decide +kernel
theorem dX3_readRest_120 : decode cX3_readRest 120 = .ok (.invokevirtual 100, 3) := by decide +kernel
theorem dX3_readRest_123 : decode cX3_readRest 123 = .ok (.aload_n 0, 1) := by decide +kernel
theorem dX3_readRest_124 : decode cX3_readRest 124 = .ok (.getfield 22, 3) := by decide +kernel
theorem dX3_readRest_127 : decode cX3_readRest 127 = .ok (.iload_n 1, 1) := by decide +kernel
theorem dX3_readRest_128 : decode cX3_readRest 128 = .ok (.aload_n 0, 1) := by decide +kernel
theorem dX3_readRest_129 : decode cX3_readRest 129 = .ok (.iconst 1, 1) := by decide +kernel
theorem dX3_readRest_130 : decode cX3_readRest 130 = .ok (.bipush 99, 2) := by decide +kernel
theorem dX3_readRest_132 : decode cX3_readRest 132 = .ok (.invokevirtual 96, 3) := by decide +kernel
theorem dX3_readRest_135 : decode cX3_readRest 135 = .ok (.iastore, 1) := by decide +kernel
theorem dX3_readRest_136 : decode cX3_readRest 136 = .ok (.goto 3, 3) := by decide +kernel
theorem dX3_readRest_139 : decode cX3_readRest 139 = .ok (.return_, 1) := by decide +kernel
theorem dX3_readOpening_0 : decode cX3_readOpening 0 = .ok (.aload_n 0, 1) := by decide +kernel
theorem dX3_readOpening_1 : decode cX3_readOpening 1 = .ok (.getfield 66, 3) := by decide +kernel
theorem dX3_readOpening_4 : decode cX3_readOpening 4 = .ok (.bipush 40, 2) := by decide +kernel
theorem dX3_readOpening_6 : decode cX3_readOpening 6 = .ok (.if_icmp .ne 16, 3) := by decide +kernel
theorem dX3_readOpening_9 : decode cX3_readOpening 9 = .ok (.aload_n 0, 1) := by decide +kernel
theorem dX3_readOpening_10 : decode cX3_readOpening 10 = .ok (.getfield 51, 3) := by decide +kernel
theorem dX3_readOpening_13 : decode cX3_readOpening 13 = .ok (.iconst 5, 1) := by decide +kernel
theorem dX3_readOpening_14 : decode cX3_readOpening 14 = .ok (.if_icmp .lt 8, 3) := by decide +kernel
theorem dX3_readOpening_17 : decode cX3_readOpening 17 = .ok (.aload_n 0, 1) := by decide +kernel
theorem dX3_readOpening_18 : decode cX3_readOpening 18 = .ok (.iconst 2, 1) := by decide +kernel
theorem dX3_readOpening_19 : decode cX3_readOpening 19 = .ok (.invokevirtual 76, 3) := by decide +kernel
theorem dX3_readOpening_22 : decode cX3_readOpening 22 = .ok (.aload_n 0, 1) := by decide +kernel
theorem dX3_readOpening_23 : decode cX3_readOpening 23 = .ok (.bipush 40, 2) := by decide +kernel
theorem dX3_readOpening_25 : decode cX3_readOpening 25 = .ok (.invokevirtual 89, 3) := by decide +kernel
theorem dX3_readOpening_28 : decode cX3_readOpening 28 = .ok (.aload_n 0, 1) := by decide +kernel
theorem dX3_readOpening_29 : decode cX3_readOpening 29 = .ok (.getfield 57, 3) := by decide +kernel
theorem dX3_readOpening_32 : decode cX3_readOpening 32 = .ok (.ifCond .eq 4, 3) := by decide +kernel
theorem dX3_readOpening_35 : decode cX3_readOpening 35 = .ok (.return_, 1) := by decide +kernel
theorem dX3_readOpening_36 : decode cX3_readOpening 36 = .ok (.aload_n 0, 1) := by decide +kernel
theorem dX3_readOpening_37 : decode cX3_readOpening 37 = .ok (.getfield 37, 3) := by decide +kernel
theorem dX3_readOpening_40 : decode cX3_readOpening 40 = .ok (.aload_n 0, 1) := by decide +kernel
theorem dX3_readOpening_41 : decode cX3_readOpening 41 = .ok (.getfield 51, 3) := by decide +kernel
theorem dX3_readOpening_44 : decode cX3_readOpening 44 = .ok (.iload_n 1, 1) := by decide +kernel
theorem dX3_readOpening_45 : decode cX3_readOpening 45 = .ok (.iastore, 1) := by decide +kernel
theorem dX3_readOpening_46 : decode cX3_readOpening 46 = .ok (.aload_n 0, 1) := by decide +kernel
theorem dX3_readOpening_47 : decode cX3_readOpening 47 = .ok (.dup, 1) := by decide +kernel
theorem dX3_readOpening_48 : decode cX3_readOpening 48 = .ok (.getfield 51, 3) := by decide +kernel
theorem dX3_readOpening_51 : decode cX3_readOpening 51 = .ok (.iconst 1, 1) := by decide +kernel
theorem dX3_readOpening_52 : decode cX3_readOpening 52 = .ok (.iadd, 1) := by decide +kernel
theorem dX3_readOpening_53 : decode cX3_readOpening 53 = .ok (.putfield 51, 3) := by decide +kernel
theorem dX3_readOpening_56 : decode cX3_readOpening 56 = .ok (.aload_n 0, 1) := by decide +kernel
theorem dX3_readOpening_57 : decode cX3_readOpening 57 = .ok (.getfield 18, 3) := by decide +kernel
theorem dX3_readOpening_60 : decode cX3_readOpening 60 = .ok (.iload_n 1, 1) := by decide +kernel
theorem dX3_readOpening_61 : decode cX3_readOpening 61 = .ok (.iaload, 1) := by decide +kernel
theorem dX3_readOpening_62 : decode cX3_readOpening 62 = .ok (.bipush 10, 2) := by decide +kernel
theorem dX3_readOpening_64 : decode cX3_readOpening 64 = .ok (.if_icmp .ne 20, 3) := by decide +kernel
theorem dX3_readOpening_67 : decode cX3_readOpening 67 = .ok (.aload_n 0, 1) := by decide +kernel
theorem dX3_readOpening_68 : decode cX3_readOpening 68 = .ok (.dup, 1) := by decide +kernel
theorem dX3_readOpening_69 : decode cX3_readOpening 69 = .ok (.getfield 54, 3) := by decide +kernel
theorem dX3_readOpening_72 : decode cX3_readOpening 72 = .ok (.iconst 1, 1) := by decide +kernel
theorem dX3_readOpening_73 : decode cX3_readOpening 73 = .ok (.aload_n 0, 1) := by decide +kernel
theorem dX3_readOpening_74 : decode cX3_readOpening 74 = .ok (.getfield 25, 3) := by decide +kernel
theorem dX3_readOpening_77 : decode cX3_readOpening 77 = .ok (.iload_n 1, 1) := by decide +kernel
theorem dX3_readOpening_78 : decode cX3_readOpening 78 = .ok (.iaload, 1) := by decide +kernel
theorem dX3_readOpening_79 : decode cX3_readOpening 79 = .ok (.ishl, 1) := by decide +kernel
theorem dX3_readOpening_80 : decode cX3_readOpening 80 = .ok (.ior, 1) := by decide +kernel
theorem dX3_readOpening_81 : decode cX3_readOpening 81 = .ok (.putfield 54, 3) := by decide +kernel
theorem dX3_readOpening_84 : decode cX3_readOpening 84 = .ok (.return_, 1) := by decide +kernel
theorem dX3_readClosing_0 : decode cX3_readClosing 0 = .ok (.aload_n 0, 1) := by decide +kernel
theorem dX3_readClosing_1 : decode cX3_readClosing 1 = .ok (.getfield 51, 3) := by decide +kernel
theorem dX3_readClosing_4 : decode cX3_readClosing 4 = .ok (.ifCond .ne 9, 3) := by decide +kernel
theorem dX3_readClosing_7 : decode cX3_readClosing 7 = .ok (.aload_n 0, 1) := by decide +kernel
theorem dX3_readClosing_8 : decode cX3_readClosing 8 = .ok (.iconst 1, 1) := by decide +kernel
theorem dX3_readClosing_9 : decode cX3_readClosing 9 = .ok (.invokevirtual 76, 3) := by decide +kernel
theorem dX3_readClosing_12 : decode cX3_readClosing 12 = .ok (.return_, 1) := by decide +kernel
theorem dX3_readClosing_13 : decode cX3_readClosing 13 = .ok (.aload_n 0, 1) := by decide +kernel
theorem dX3_readClosing_14 : decode cX3_readClosing 14 = .ok (.dup, 1) := by decide +kernel
theorem dX3_readClosing_15 : decode cX3_readClosing 15 = .ok (.getfield 51, 3) := by decide +kernel
theorem dX3_readClosing_18 : decode cX3_readClosing 18 = .ok (.iconst 1, 1) := by decide +kernel
theorem dX3_readClosing_19 : decode cX3_readClosing 19 = .ok (.isub, 1) := by decide +kernel
theorem dX3_readClosing_20 : decode cX3_readClosing 20 = .ok (.putfield 51, 3) := by decide +kernel
theorem dX3_readClosing_23 : decode cX3_readClosing 23 = .ok (.aload_n 0, 1) := by decide +kernel
theorem dX3_readClosing_24 : decode cX3_readClosing 24 = .ok (.getfield 37, 3) := by decide +kernel
theorem dX3_readClosing_27 : decode cX3_readClosing 27 = .ok (.aload_n 0, 1) := by decide +kernel
theorem dX3_readClosing_28 : decode cX3_readClosing 28 = .ok (.getfield 51, 3) := by decide +kernel
theorem dX3_readClosing_31 : decode cX3_readClosing 31 = .ok (.iaload, 1) := by decide +kernel
theorem dX3_readClosing_32 : decode cX3_readClosing 32 = .ok (.istore_n 1, 1) := by decide +kernel
theorem dX3_readClosing_33 : decode cX3_readClosing 33 = .ok (.aload_n 0, 1) := by decide +kernel
theorem dX3_readClosing_34 : decode cX3_readClosing 34 = .ok (.getfield 28, 3) := by decide +kernel
theorem dX3_readClosing_37 : decode cX3_readClosing 37 = .ok (.iload_n 1, 1) := by decide +kernel
theorem dX3_readClosing_38 : decode cX3_readClosing 38 = .ok (.aload_n 0, 1) := by decide +kernel
theorem dX3_readClosing_39 : decode cX3_readClosing 39 = .ok (.getfield 48, 3) := by decide +kernel
theorem dX3_readClosing_42 : decode cX3_readClosing 42 = .ok (.iastore, 1) := by decide +kernel
theorem dX3_readClosing_43 : decode cX3_readClosing 43 = .ok (.aload_n 0, 1) := by decide +kernel
theorem dX3_readClosing_44 : decode cX3_readClosing 44 = .ok (.getfield 18, 3) := by decide +kernel
theorem dX3_readClosing_47 : decode cX3_readClosing 47 = .ok (.iload_n 1, 1) := by decide +kernel
theorem dX3_readClosing_48 : decode cX3_readClosing 48 = .ok (.iaload, 1) := by decide +kernel
theorem dX3_readClosing_49 : decode cX3_readClosing 49 = .ok (.bipush 10, 2) := by decide +kernel
theorem dX3_readClosing_51 : decode cX3_readClosing 51 = .ok (.if_icmp .ne 22, 3) := by decide +kernel
theorem dX3_readClosing_54 : decode cX3_readClosing 54 = .ok (.aload_n 0, 1) := by decide +kernel
theorem dX3_readClosing_55 : decode cX3_readClosing 55 = .ok (.dup, 1) := by decide +kernel
theorem dX3_readClosing_56 : decode cX3_readClosing 56 = .ok (.getfield 54, 3) := by decide +kernel
theorem dX3_readClosing_59 : decode cX3_readClosing 59 = .ok (.iconst 1, 1) := by decide +kernel
theorem dX3_readClosing_60 : decode cX3_readClosing 60 = .ok (.aload_n 0, 1) := by decide +kernel
theorem dX3_readClosing_61 : decode cX3_readClosing 61 = .ok (.getfield 25, 3) := by decide +kernel
theorem dX3_readClosing_64 : decode cX3_readClosing 64 = .ok (.iload_n 1, 1) := by decide +kernel
theorem dX3_readClosing_65 : decode cX3_readClosing 65 = .ok (.iaload, 1) := by decide +kernel
theorem dX3_readClosing_66 : decode cX3_readClosing 66 = .ok (.ishl, 1) := by decide +kernel
theorem dX3_readClosing_67 : decode cX3_readClosing 67 = .ok (.iconst (-1), 1) := by decide +kernel
theorem dX3_readClosing_68 : decode cX3_readClosing 68 = .ok (.ixor, 1) := by decide +kernel
theorem dX3_readClosing_69 : decode cX3_readClosing 69 = .ok (.iand, 1) := by decide +kernel
theorem dX3_readClosing_70 : decode cX3_readClosing 70 = .ok (.putfield 54, 3) := by decide +kernel
theorem dX3_readClosing_73 : decode cX3_readClosing 73 = .ok (.aload_n 0, 1) := by decide +kernel
theorem dX3_readClosing_74 : decode cX3_readClosing 74 = .ok (.invokevirtual 83, 3) := by decide +kernel
theorem dX3_readClosing_77 : decode cX3_readClosing 77 = .ok (.return_, 1) := by decide +kernel
theorem dX3_readSign_0 : decode cX3_readSign 0 = .ok (.aload_n 0, 1) := by decide +kernel
theorem dX3_readSign_1 : decode cX3_readSign 1 = .ok (.getfield 66, 3) := by decide +kernel
theorem dX3_readSign_4 : decode cX3_readSign 4 = .ok (.iload_n 1, 1) := by decide +kernel
theorem dX3_readSign_5 : decode cX3_readSign 5 = .ok (.if_icmp .eq 9, 3) := by decide +kernel
theorem dX3_readSign_8 : decode cX3_readSign 8 = .ok (.aload_n 0, 1) := by decide +kernel
theorem dX3_readSign_9 : decode cX3_readSign 9 = .ok (.iconst 1, 1) := by decide +kernel
theorem dX3_readSign_10 : decode cX3_readSign 10 = .ok (.invokevirtual 76, 3) := by decide +kernel
theorem dX3_readSign_13 : decode cX3_readSign 13 = .ok (.return_, 1) := by decide +kernel
theorem dX3_readSign_14 : decode cX3_readSign 14 = .ok (.aload_n 0, 1) := by decide +kernel
theorem dX3_readSign_15 : decode cX3_readSign 15 = .ok (.invokevirtual 83, 3) := by decide +kernel
theorem dX3_readSign_18 : decode cX3_readSign 18 = .ok (.return_, 1) := by decide +kernel
theorem dX3_readNumber_0 : decode cX3_readNumber 0 = .ok (.aload_n 0, 1) := by decide +kernel
theorem dX3_readNumber_1 : decode cX3_readNumber 1 = .ok (.getfield 66, 3) := by decide +kernel
theorem dX3_readNumber_4 : decode cX3_readNumber 4 = .ok (.iconst 2, 1) := by decide +kernel
theorem dX3_readNumber_5 : decode cX3_readNumber 5 = .ok (.if_icmp .eq 10, 3) := by decide +kernel
theorem dX3_readNumber_8 : decode cX3_readNumber 8 = .ok (.aload_n 0, 1) := by decide +kernel
theorem dX3_readNumber_9 : decode cX3_readNumber 9 = .ok (.iconst 1, 1) := by decide +kernel
theorem dX3_readNumber_10 : decode cX3_readNumber 10 = .ok (.invokevirtual 76, 3) := by decide +kernel
theorem dX3_readNumber_13 : decode cX3_readNumber 13 = .ok (.iload_n 1, 1) := by decide +kernel
theorem dX3_readNumber_14 : decode cX3_readNumber 14 = .ok (.ireturn, 1) := by decide +kernel
theorem dX3_readNumber_15 : decode cX3_readNumber 15 = .ok (.aload_n 0, 1) := by decide +kernel
theorem dX3_readNumber_16 : decode cX3_readNumber 16 = .ok (.getfield 12, 3) := by decide +kernel
theorem dX3_readNumber_19 : decode cX3_readNumber 19 = .ok (.getfield 107, 3) := by decide +kernel
theorem dX3_readNumber_22 : decode cX3_readNumber 22 = .ok (.aload_n 0, 1) := by decide +kernel
theorem dX3_readNumber_23 : decode cX3_readNumber 23 = .ok (.getfield 60, 3) := by decide +kernel
theorem dX3_readNumber_26 : decode cX3_readNumber 26 = .ok (.iaload, 1) := by decide +kernel
theorem dX3_readNumber_27 : decode cX3_readNumber 27 = .ok (.istore_n 3, 1) := by decide +kernel
theorem dX3_readNumber_28 : decode cX3_readNumber 28 = .ok (.iload_n 3, 1) := by decide +kernel
theorem dX3_readNumber_29 : decode cX3_readNumber 29 = .ok (.iload_n 1, 1) := by decide +kernel
theorem dX3_readNumber_30 : decode cX3_readNumber 30 = .ok (.if_icmp .lt 8, 3) := by decide +kernel
theorem dX3_readNumber_33 : decode cX3_readNumber 33 = .ok (.iload_n 3, 1) := by decide +kernel
theorem dX3_readNumber_34 : decode cX3_readNumber 34 = .ok (.iload_n 2, 1) := by decide +kernel
theorem dX3_readNumber_35 : decode cX3_readNumber 35 = .ok (.if_icmp .le 10, 3) := by decide +kernel
theorem dX3_readNumber_38 : decode cX3_readNumber 38 = .ok (.aload_n 0, 1) := by decide +kernel
theorem dX3_readNumber_39 : decode cX3_readNumber 39 = .ok (.iconst 2, 1) := by decide +kernel
theorem dX3_readNumber_40 : decode cX3_readNumber 40 = .ok (.invokevirtual 76, 3) := by decide +kernel
theorem dX3_readNumber_43 : decode cX3_readNumber 43 = .ok (.iload_n 1, 1) := by decide +kernel
theorem dX3_readNumber_44 : decode cX3_readNumber 44 = .ok (.ireturn, 1) := by decide +kernel
theorem dX3_readNumber_45 : decode cX3_readNumber 45 = .ok (.aload_n 0, 1) := by decide +kernel
theorem dX3_readNumber_46 : decode cX3_readNumber 46 = .ok (.invokevirtual 83, 3) := by decide +kernel
theorem dX3_readNumber_49 : decode cX3_readNumber 49 = .ok (.iload_n 3, 1) := by decide +kernel
theorem dX3_readNumber_50 : decode cX3_readNumber 50 = .ok (.ireturn, 1) := by decide +kernel
theorem dX3_readNewLetter_0 : decode cX3_readNewLetter 0 = .ok (.aload_n 0, 1) := by decide +kernel
theorem dX3_readNewLetter_1 : decode cX3_readNewLetter 1 = .ok (.getfield 66, 3) := by decide +kernel
theorem dX3_readNewLetter_4 : decode cX3_readNewLetter 4 = .ok (.iconst 3, 1) := by decide +kernel
theorem dX3_readNewLetter_5 : decode cX3_readNewLetter 5 = .ok (.if_icmp .eq 10, 3) := by decide +kernel
theorem dX3_readNewLetter_8 : decode cX3_readNewLetter 8 = .ok (.aload_n 0, 1) := by decide +kernel
theorem dX3_readNewLetter_9 : decode cX3_readNewLetter 9 = .ok (.iconst 1, 1) := by decide +kernel
theorem dX3_readNewLetter_10 : decode cX3_readNewLetter 10 = .ok (.invokevirtual 76, 3) := by decide +kernel
theorem dX3_readNewLetter_13 : decode cX3_readNewLetter 13 = .ok (.iconst 0, 1) := by decide +kernel
theorem dX3_readNewLetter_14 : decode cX3_readNewLetter 14 = .ok (.ireturn, 1) := by decide +kernel
theorem dX3_readNewLetter_15 : decode cX3_readNewLetter 15 = .ok (.aload_n 0, 1) := by decide +kernel
theorem dX3_readNewLetter_16 : decode cX3_readNewLetter 16 = .ok (.getfield 12, 3) := by decide +kernel
theorem dX3_readNewLetter_19 : decode cX3_readNewLetter 19 = .ok (.getfield 107, 3) := by decide +kernel
theorem dX3_readNewLetter_22 : decode cX3_readNewLetter 22 = .ok (.aload_n 0, 1) := by decide +kernel
theorem dX3_readNewLetter_23 : decode cX3_readNewLetter 23 = .ok (.getfield 60, 3) := by decide +kernel
theorem dX3_readNewLetter_26 : decode cX3_readNewLetter 26 = .ok (.iaload, 1) := by decide +kernel
theorem dX3_readNewLetter_27 : decode cX3_readNewLetter 27 = .ok (.istore_n 1, 1) := by decide +kernel
theorem dX3_readNewLetter_28 : decode cX3_readNewLetter 28 = .ok (.aload_n 0, 1) := by decide +kernel
theorem dX3_readNewLetter_29 : decode cX3_readNewLetter 29 = .ok (.iload_n 1, 1) := by decide +kernel
theorem dX3_readNewLetter_30 : decode cX3_readNewLetter 30 = .ok (.invokevirtual 110, 3) := by decide +kernel
theorem dX3_readNewLetter_33 : decode cX3_readNewLetter 33 = .ok (.ifCond .eq 8, 3) := by decide +kernel
theorem dX3_readNewLetter_36 : decode cX3_readNewLetter 36 = .ok (.aload_n 0, 1) := by decide +kernel
theorem dX3_readNewLetter_37 : decode cX3_readNewLetter 37 = .ok (.iconst 3, 1) := by decide +kernel
theorem dX3_readNewLetter_38 : decode cX3_readNewLetter 38 = .ok (.invokevirtual 76, 3) := by decide +kernel
theorem dX3_readNewLetter_41 : decode cX3_readNewLetter 41 = .ok (.aload_n 0, 1) := by decide +kernel
theorem dX3_readNewLetter_42 : decode cX3_readNewLetter 42 = .ok (.invokevirtual 83, 3) := by decide +kernel
theorem dX3_readNewLetter_45 : decode cX3_readNewLetter 45 = .ok (.iload_n 1, 1) := by decide +kernel
theorem dX3_readNewLetter_46 : decode cX3_readNewLetter 46 = .ok (.ireturn, 1) := by decide +kernel
theorem dX3_readPlace_0 : decode cX3_readPlace 0 = .ok (.aload_n 0, 1) := by decide +kernel
theorem dX3_readPlace_1 : decode cX3_readPlace 1 = .ok (.getfield 31, 3) := by decide +kernel
theorem dX3_readPlace_4 : decode cX3_readPlace 4 = .ok (.iload_n 1, 1) := by decide +kernel
theorem dX3_readPlace_5 : decode cX3_readPlace 5 = .ok (.iconst (-1), 1) := by decide +kernel
theorem dX3_readPlace_6 : decode cX3_readPlace 6 = .ok (.iastore, 1) := by decide +kernel
theorem dX3_readPlace_7 : decode cX3_readPlace 7 = .ok (.aload_n 0, 1) := by decide +kernel
theorem dX3_readPlace_8 : decode cX3_readPlace 8 = .ok (.getfield 66, 3) := by decide +kernel
theorem dX3_readPlace_11 : decode cX3_readPlace 11 = .ok (.iconst 3, 1) := by decide +kernel
theorem dX3_readPlace_12 : decode cX3_readPlace 12 = .ok (.if_icmp .eq 18, 3) := by decide +kernel
theorem dX3_readPlace_15 : decode cX3_readPlace 15 = .ok (.aload_n 0, 1) := by decide +kernel
theorem dX3_readPlace_16 : decode cX3_readPlace 16 = .ok (.getfield 34, 3) := by decide +kernel
theorem dX3_readPlace_19 : decode cX3_readPlace 19 = .ok (.iload_n 1, 1) := by decide +kernel
theorem dX3_readPlace_20 : decode cX3_readPlace 20 = .ok (.aload_n 0, 1) := by decide +kernel
theorem dX3_readPlace_21 : decode cX3_readPlace 21 = .ok (.iconst 0, 1) := by decide +kernel
theorem dX3_readPlace_22 : decode cX3_readPlace 22 = .ok (.sipush 999, 3) := by decide +kernel
theorem dX3_readPlace_25 : decode cX3_readPlace 25 = .ok (.invokevirtual 96, 3) := by decide +kernel
theorem dX3_readPlace_28 : decode cX3_readPlace 28 = .ok (.iastore, 1) := by decide +kernel
theorem dX3_readPlace_29 : decode cX3_readPlace 29 = .ok (.return_, 1) := by decide +kernel
theorem dX3_readPlace_30 : decode cX3_readPlace 30 = .ok (.aload_n 0, 1) := by decide +kernel
theorem dX3_readPlace_31 : decode cX3_readPlace 31 = .ok (.getfield 12, 3) := by decide +kernel
theorem dX3_readPlace_34 : decode cX3_readPlace 34 = .ok (.getfield 107, 3) := by decide +kernel
theorem dX3_readPlace_37 : decode cX3_readPlace 37 = .ok (.aload_n 0, 1) := by decide +kernel
theorem dX3_readPlace_38 : decode cX3_readPlace 38 = .ok (.getfield 60, 3) := by decide +kernel
theorem dX3_readPlace_41 : decode cX3_readPlace 41 = .ok (.iaload, 1) := by decide +kernel
theorem dX3_readPlace_42 : decode cX3_readPlace 42 = .ok (.istore_n 2, 1) := by decide +kernel
theorem dX3_readPlace_43 : decode cX3_readPlace 43 = .ok (.aload_n 0, 1) := by decide +kernel
theorem dX3_readPlace_44 : decode cX3_readPlace 44 = .ok (.iload_n 2, 1) := by decide +kernel
theorem dX3_readPlace_45 : decode cX3_readPlace 45 = .ok (.invokevirtual 110, 3) := by decide +kernel
theorem dX3_readPlace_48 : decode cX3_readPlace 48 = .ok (.ifCond .ne 8, 3) := by decide +kernel
theorem dX3_readPlace_51 : decode cX3_readPlace 51 = .ok (.aload_n 0, 1) := by decide +kernel
theorem dX3_readPlace_52 : decode cX3_readPlace 52 = .ok (.iconst 3, 1) := by decide +kernel
theorem dX3_readPlace_53 : decode cX3_readPlace 53 = .ok (.invokevirtual 76, 3) := by decide +kernel
theorem dX3_readPlace_56 : decode cX3_readPlace 56 = .ok (.aload_n 0, 1) := by decide +kernel
theorem dX3_readPlace_57 : decode cX3_readPlace 57 = .ok (.getfield 31, 3) := by decide +kernel
theorem dX3_readPlace_60 : decode cX3_readPlace 60 = .ok (.iload_n 1, 1) := by decide +kernel
theorem dX3_readPlace_61 : decode cX3_readPlace 61 = .ok (.iload_n 2, 1) := by decide +kernel
theorem dX3_readPlace_62 : decode cX3_readPlace 62 = .ok (.iastore, 1) := by decide +kernel
theorem dX3_readPlace_63 : decode cX3_readPlace 63 = .ok (.aload_n 0, 1) := by decide +kernel
theorem dX3_readPlace_64 : decode cX3_readPlace 64 = .ok (.getfield 34, 3) := by decide +kernel
theorem dX3_readPlace_67 : decode cX3_readPlace 67 = .ok (.iload_n 1, 1) := by decide +kernel
theorem dX3_readPlace_68 : decode cX3_readPlace 68 = .ok (.iconst 0, 1) := by decide +kernel
theorem dX3_readPlace_69 : decode cX3_readPlace 69 = .ok (.iastore, 1) := by decide +kernel
theorem dX3_readPlace_70 : decode cX3_readPlace 70 = .ok (.aload_n 0, 1) := by decide +kernel
theorem dX3_readPlace_71 : decode cX3_readPlace 71 = .ok (.invokevirtual 83, 3) := by decide +kernel
theorem dX3_readPlace_74 : decode cX3_readPlace 74 = .ok (.aload_n 0, 1) := by decide +kernel
theorem dX3_readPlace_75 : decode cX3_readPlace 75 = .ok (.getfield 66, 3) := by decide +kernel
theorem dX3_readPlace_78 : decode cX3_readPlace 78 = .ok (.bipush 43, 2) := by decide +kernel
theorem dX3_readPlace_80 : decode cX3_readPlace 80 = .ok (.if_icmp .ne 24, 3) := by decide +kernel
theorem dX3_readPlace_83 : decode cX3_readPlace 83 = .ok (.aload_n 0, 1) := by decide +kernel
theorem dX3_readPlace_84 : decode cX3_readPlace 84 = .ok (.invokevirtual 83, 3) := by decide +kernel
theorem dX3_readPlace_87 : decode cX3_readPlace 87 = .ok (.aload_n 0, 1) := by decide +kernel
theorem dX3_readPlace_88 : decode cX3_readPlace 88 = .ok (.getfield 34, 3) := by decide +kernel
theorem dX3_readPlace_91 : decode cX3_readPlace 91 = .ok (.iload_n 1, 1) := by decide +kernel
theorem dX3_readPlace_92 : decode cX3_readPlace 92 = .ok (.aload_n 0, 1) := by decide +kernel
theorem dX3_readPlace_93 : decode cX3_readPlace 93 = .ok (.iconst 0, 1) := by decide +kernel
theorem dX3_readPlace_94 : decode cX3_readPlace 94 = .ok (.sipush 999, 3) := by decide +kernel
theorem dX3_readPlace_97 : decode cX3_readPlace 97 = .ok (.invokevirtual 96, 3) := by decide +kernel
theorem dX3_readPlace_100 : decode cX3_readPlace 100 = .ok (.iastore, 1) := by decide +kernel
theorem dX3_readPlace_101 : decode cX3_readPlace 101 = .ok (.goto 31, 3) := by decide +kernel
theorem dX3_readPlace_104 : decode cX3_readPlace 104 = .ok (.aload_n 0, 1) := by decide +kernel
theorem dX3_readPlace_105 : decode cX3_readPlace 105 = .ok (.getfield 66, 3) := by decide +kernel
theorem dX3_readPlace_108 : decode cX3_readPlace 108 = .ok (.bipush 45, 2) := by decide +kernel
theorem dX3_readPlace_110 : decode cX3_readPlace 110 = .ok (.if_icmp .ne 22, 3) := by decide +kernel
theorem dX3_readPlace_113 : decode cX3_readPlace 113 = .ok (.aload_n 0, 1) := by decide +kernel
theorem dX3_readPlace_114 : decode cX3_readPlace 114 = .ok (.invokevirtual 83, 3) := by decide +kernel
theorem dX3_readPlace_117 : decode cX3_readPlace 117 = .ok (.aload_n 0, 1) := by decide +kernel
theorem dX3_readPlace_118 : decode cX3_readPlace 118 = .ok (.getfield 34, 3) := by decide +kernel
theorem dX3_readPlace_121 : decode cX3_readPlace 121 = .ok (.iload_n 1, 1) := by decide +kernel
theorem dX3_readPlace_122 : decode cX3_readPlace 122 = .ok (.aload_n 0, 1) := by decide +kernel
theorem dX3_readPlace_123 : decode cX3_readPlace 123 = .ok (.iconst 0, 1) := by decide +kernel
theorem dX3_readPlace_124 : decode cX3_readPlace 124 = .ok (.sipush 999, 3) := by decide +kernel
theorem dX3_readPlace_127 : decode cX3_readPlace 127 = .ok (.invokevirtual 96, 3) := by decide +kernel
theorem dX3_readPlace_130 : decode cX3_readPlace 130 = .ok (.ineg, 1) := by decide +kernel
theorem dX3_readPlace_131 : decode cX3_readPlace 131 = .ok (.iastore, 1) := by decide +kernel
theorem dX3_readPlace_132 : decode cX3_readPlace 132 = .ok (.return_, 1) := by decide +kernel
theorem dX3_isLetterAround_0 : decode cX3_isLetterAround 0 = .ok (.aload_n 0, 1) := by decide +kernel
theorem dX3_isLetterAround_1 : decode cX3_isLetterAround 1 = .ok (.getfield 54, 3) := by decide +kernel
theorem dX3_isLetterAround_4 : decode cX3_isLetterAround 4 = .ok (.iload_n 1, 1) := by decide +kernel
theorem dX3_isLetterAround_5 : decode cX3_isLetterAround 5 = .ok (.ishr, 1) := by decide +kernel
theorem dX3_isLetterAround_6 : decode cX3_isLetterAround 6 = .ok (.iconst 1, 1) := by decide +kernel
theorem dX3_isLetterAround_7 : decode cX3_isLetterAround 7 = .ok (.iand, 1) := by decide +kernel
theorem dX3_isLetterAround_8 : decode cX3_isLetterAround 8 = .ok (.iconst 1, 1) := by decide +kernel
theorem dX3_isLetterAround_9 : decode cX3_isLetterAround 9 = .ok (.if_icmp .ne 7, 3) := by decide +kernel
theorem dX3_isLetterAround_12 : decode cX3_isLetterAround 12 = .ok (.iconst 1, 1) := by decide +kernel
theorem dX3_isLetterAround_13 : decode cX3_isLetterAround 13 = .ok (.goto 4, 3) := by decide +kernel
theorem dX3_isLetterAround_16 : decode cX3_isLetterAround 16 = .ok (.iconst 0, 1) := by decide +kernel
theorem dX3_isLetterAround_17 : decode cX3_isLetterAround 17 = .ok (.ireturn, 1) := by decide +kernel
theorem dX4_init_0 : decode cX4_init 0 = .ok (.aload_n 0, 1) := by decide +kernel
theorem dX4_init_1 : decode cX4_init 1 = .ok (.invokespecial 3, 3) := by decide +kernel
theorem dX4_init_4 : decode cX4_init 4 = .ok (.aload_n 0, 1) := by decide +kernel
theorem dX4_init_5 : decode cX4_init 5 = .ok (.bipush 8, 2) := by decide +kernel
theorem dX4_init_7 : decode cX4_init 7 = .ok (.newarray .int, 2) := by decide +kernel
theorem dX4_init_9 : decode cX4_init 9 = .ok (.putfield 11, 3) := by decide +kernel
theorem dX4_init_12 : decode cX4_init 12 = .ok (.aload_n 0, 1) := by decide +kernel
theorem dX4_init_13 : decode cX4_init 13 = .ok (.aload_n 1, 1) := by decide +kernel
theorem dX4_init_14 : decode cX4_init 14 = .ok (.putfield 17, 3) := by decide +kernel
theorem dX4_init_17 : decode cX4_init 17 = .ok (.aload_n 0, 1) := by decide +kernel
theorem dX4_init_18 : decode cX4_init 18 = .ok (.aload_n 2, 1) := by decide +kernel
theorem dX4_init_19 : decode cX4_init 19 = .ok (.putfield 21, 3) := by decide +kernel
theorem dX4_init_22 : decode cX4_init 22 = .ok (.aload_n 0, 1) := by decide +kernel
theorem dX4_init_23 : decode cX4_init 23 = .ok (.aload_n 3, 1) := by decide +kernel
theorem dX4_init_24 : decode cX4_init 24 = .ok (.putfield 25, 3) := by decide +kernel
theorem dX4_init_27 : decode cX4_init 27 = .ok (.return_, 1) := by decide +kernel
theorem dX4_forget_0 : decode cX4_forget 0 = .ok (.aload_n 0, 1) := by decide +kernel
theorem dX4_forget_1 : decode cX4_forget 1 = .ok (.iconst 0, 1) := by decide +kernel
theorem dX4_forget_2 : decode cX4_forget 2 = .ok (.putfield 29, 3) := by decide +kernel
theorem dX4_forget_5 : decode cX4_forget 5 = .ok (.aload_n 0, 1) := by decide +kernel
theorem dX4_forget_6 : decode cX4_forget 6 = .ok (.iconst 0, 1) := by decide +kernel
theorem dX4_forget_7 : decode cX4_forget 7 = .ok (.putfield 33, 3) := by decide +kernel
theorem dX4_forget_10 : decode cX4_forget 10 = .ok (.aload_n 0, 1) := by decide +kernel
theorem dX4_forget_11 : decode cX4_forget 11 = .ok (.iconst 0, 1) := by decide +kernel
theorem dX4_forget_12 : decode cX4_forget 12 = .ok (.putfield 36, 3) := by decide +kernel
theorem dX4_forget_15 : decode cX4_forget 15 = .ok (.return_, 1) := by decide +kernel
theorem dX4_runRow_0 : decode cX4_runRow 0 = .ok (.iload_n 3, 1) := by decide +kernel
theorem dX4_runRow_1 : decode cX4_runRow 1 = .ok (.iconst 5, 1) := by decide +kernel
theorem dX4_runRow_2 : decode cX4_runRow 2 = .ok (.if_icmp .gt 14, 3) := by decide +kernel
theorem dX4_runRow_5 : decode cX4_runRow 5 = .ok (.iload_n 2, 1) := by decide +kernel
theorem dX4_runRow_6 : decode cX4_runRow 6 = .ok (.aload_n 0, 1) := by decide +kernel
theorem dX4_runRow_7 : decode cX4_runRow 7 = .ok (.getfield 25, 3) := by decide +kernel
theorem dX4_runRow_10 : decode cX4_runRow 10 = .ok (.getfield 41, 3) := by decide +kernel
theorem dX4_runRow_13 : decode cX4_runRow 13 = .ok (.if_icmp .le 5, 3) := by decide +kernel
theorem dX4_runRow_16 : decode cX4_runRow 16 = .ok (.iconst 1, 1) := by decide +kernel
theorem dX4_runRow_17 : decode cX4_runRow 17 = .ok (.ireturn, 1) := by decide +kernel
theorem dX4_runRow_18 : decode cX4_runRow 18 = .ok (.iload_n 1, 1) := by decide +kernel
theorem dX4_runRow_19 : decode cX4_runRow 19 = .ok (.istore 4, 2) := by decide +kernel
theorem dX4_runRow_21 : decode cX4_runRow 21 = .ok (.iload 4, 2) := by decide +kernel
theorem dX4_runRow_23 : decode cX4_runRow 23 = .ok (.iload_n 2, 1) := by decide +kernel
theorem dX4_runRow_24 : decode cX4_runRow 24 = .ok (.if_icmp .ge 42, 3) := by decide +kernel
theorem dX4_runRow_27 : decode cX4_runRow 27 = .ok (.aload_n 0, 1) := by decide +kernel
theorem dX4_runRow_28 : decode cX4_runRow 28 = .ok (.iload 4, 2) := by decide +kernel
theorem dX4_runRow_30 : decode cX4_runRow 30 = .ok (.iload_n 3, 1) := by decide +kernel
theorem dX4_runRow_31 : decode cX4_runRow 31 = .ok (.invokevirtual 44, 3) := by decide +kernel
theorem dX4_runRow_34 : decode cX4_runRow 34 = .ok (.istore 5, 2) := by decide +kernel
theorem dX4_runRow_36 : decode cX4_runRow 36 = .ok (.iload 5, 2) := by decide +kernel
theorem dX4_runRow_38 : decode cX4_runRow 38 = .ok (.ifCond .eq 6, 3) := by decide +kernel
theorem dX4_runRow_41 : decode cX4_runRow 41 = .ok (.iload 5, 2) := by decide +kernel
theorem dX4_runRow_43 : decode cX4_runRow 43 = .ok (.ireturn, 1) := by decide +kernel
theorem dX4_runRow_44 : decode cX4_runRow 44 = .ok (.iload 4, 2) := by decide +kernel
theorem dX4_runRow_46 : decode cX4_runRow 46 = .ok (.iconst 1, 1) := by decide +kernel
theorem dX4_runRow_47 : decode cX4_runRow 47 = .ok (.iadd, 1) := by decide +kernel
theorem dX4_runRow_48 : decode cX4_runRow 48 = .ok (.aload_n 0, 1) := by decide +kernel
theorem dX4_runRow_49 : decode cX4_runRow 49 = .ok (.getfield 25, 3) := by decide +kernel
theorem dX4_runRow_52 : decode cX4_runRow 52 = .ok (.getfield 48, 3) := by decide +kernel
theorem dX4_runRow_55 : decode cX4_runRow 55 = .ok (.iload 4, 2) := by decide +kernel
theorem dX4_runRow_57 : decode cX4_runRow 57 = .ok (.iaload, 1) := by decide +kernel
theorem dX4_runRow_58 : decode cX4_runRow 58 = .ok (.invokestatic 51, 3) := by decide +kernel
theorem dX4_runRow_61 : decode cX4_runRow 61 = .ok (.istore 4, 2) := by decide +kernel
theorem dX4_runRow_63 : decode cX4_runRow 63 = .ok (.goto (-42), 3) := by decide +kernel
theorem dX4_runRow_66 : decode cX4_runRow 66 = .ok (.iconst 0, 1) := by decide +kernel
theorem dX4_runRow_67 : decode cX4_runRow 67 = .ok (.ireturn, 1) := by decide +kernel
theorem dX4_runStatement_0 : decode cX4_runStatement 0 = .ok (.aload_n 0, 1) := by decide +kernel
theorem dX4_runStatement_1 : decode cX4_runStatement 1 = .ok (.iload_n 1, 1) := by decide +kernel
theorem dX4_runStatement_2 : decode cX4_runStatement 2 = .ok (.invokevirtual 56, 3) := by decide +kernel
theorem dX4_runStatement_5 : decode cX4_runStatement 5 = .ok (.istore_n 3, 1) := by decide +kernel
theorem dX4_runStatement_6 : decode cX4_runStatement 6 = .ok (.aload_n 0, 1) := by decide +kernel
theorem dX4_runStatement_7 : decode cX4_runStatement 7 = .ok (.iload_n 1, 1) := by decide +kernel
theorem dX4_runStatement_8 : decode cX4_runStatement 8 = .ok (.iload_n 3, 1) := by decide +kernel
theorem dX4_runStatement_9 : decode cX4_runStatement 9 = .ok (.invokevirtual 60, 3) := by decide +kernel
theorem dX4_runStatement_12 : decode cX4_runStatement 12 = .ok (.istore 4, 2) := by decide +kernel
theorem dX4_runStatement_14 : decode cX4_runStatement 14 = .ok (.aload_n 0, 1) := by decide +kernel
theorem dX4_runStatement_15 : decode cX4_runStatement 15 = .ok (.getfield 33, 3) := by decide +kernel
theorem dX4_runStatement_18 : decode cX4_runStatement 18 = .ok (.iconst 1, 1) := by decide +kernel
theorem dX4_runStatement_19 : decode cX4_runStatement 19 = .ok (.iadd, 1) := by decide +kernel
theorem dX4_runStatement_20 : decode cX4_runStatement 20 = .ok (.sipush 5000, 3) := by decide +kernel
theorem dX4_runStatement_23 : decode cX4_runStatement 23 = .ok (.if_icmp .gt 15, 3) := by decide +kernel
theorem dX4_runStatement_26 : decode cX4_runStatement 26 = .ok (.aload_n 0, 1) := by decide +kernel
theorem dX4_runStatement_27 : decode cX4_runStatement 27 = .ok (.getfield 29, 3) := by decide +kernel
theorem dX4_runStatement_30 : decode cX4_runStatement 30 = .ok (.iload 4, 2) := by decide +kernel
theorem dX4_runStatement_32 : decode cX4_runStatement 32 = .ok (.iadd, 1) := by decide +kernel
theorem dX4_runStatement_33 : decode cX4_runStatement 33 = .ok (.ldc 64, 2) := by decide +kernel
theorem dX4_runStatement_35 : decode cX4_runStatement 35 = .ok (.if_icmp .le 5, 3) := by decide +kernel
theorem dX4_runStatement_38 : decode cX4_runStatement 38 = .ok (.iconst 1, 1) := by decide +kernel
theorem dX4_runStatement_39 : decode cX4_runStatement 39 = .ok (.ireturn, 1) := by decide +kernel
theorem dX4_runStatement_40 : decode cX4_runStatement 40 = .ok (.aload_n 0, 1) := by decide +kernel
theorem dX4_runStatement_41 : decode cX4_runStatement 41 = .ok (.dup, 1) := by decide +kernel
theorem dX4_runStatement_42 : decode cX4_runStatement 42 = .ok (.getfield 33, 3) := by decide +kernel
theorem dX4_runStatement_45 : decode cX4_runStatement 45 = .ok (.iconst 1, 1) := by decide +kernel
theorem dX4_runStatement_46 : decode cX4_runStatement 46 = .ok (.iadd, 1) := by decide +kernel
theorem dX4_runStatement_47 : decode cX4_runStatement 47 = .ok (.putfield 33, 3) := by decide +kernel
theorem dX4_runStatement_50 : decode cX4_runStatement 50 = .ok (.aload_n 0, 1) := by decide +kernel
theorem dX4_runStatement_51 : decode cX4_runStatement 51 = .ok (.dup, 1) := by decide +kernel
theorem dX4_runStatement_52 : decode cX4_runStatement 52 = .ok (.getfield 29, 3) := by decide +kernel
theorem dX4_runStatement_55 : decode cX4_runStatement 55 = .ok (.iload 4, 2) := by decide +kernel
theorem dX4_runStatement_57 : decode cX4_runStatement 57 = .ok (.iadd, 1) := by decide +kernel
theorem dX4_runStatement_58 : decode cX4_runStatement 58 = .ok (.putfield 29, 3) := by decide +kernel
theorem dX4_runStatement_61 : decode cX4_runStatement 61 = .ok (.aload_n 0, 1) := by decide +kernel
theorem dX4_runStatement_62 : decode cX4_runStatement 62 = .ok (.getfield 17, 3) := by decide +kernel
theorem dX4_runStatement_65 : decode cX4_runStatement 65 = .ok (.getfield 65, 3) := by decide +kernel
theorem dX4_runStatement_68 : decode cX4_runStatement 68 = .ok (.iload 4, 2) := by decide +kernel
theorem dX4_runStatement_70 : decode cX4_runStatement 70 = .ok (.iload_n 3, 1) := by decide +kernel
theorem dX4_runStatement_71 : decode cX4_runStatement 71 = .ok (.invokevirtual 71, 3) := by decide +kernel
theorem dX4_runStatement_74 : decode cX4_runStatement 74 = .ok (.aload_n 0, 1) := by decide +kernel
theorem dX4_runStatement_75 : decode cX4_runStatement 75 = .ok (.getfield 25, 3) := by decide +kernel
theorem dX4_runStatement_78 : decode cX4_runStatement 78 = .ok (.getfield 77, 3) := by decide +kernel
theorem dX4_runStatement_81 : decode cX4_runStatement 81 = .ok (.iload_n 1, 1) := by decide +kernel
theorem dX4_runStatement_82 : decode cX4_runStatement 82 = .ok (.iaload, 1) := by decide +kernel
theorem dX4_runStatement_83 : decode cX4_runStatement 83 = .ok (.tableswitch 77 7 10 #[29, 42, 63, 70], 29) := by decide +kernel
theorem dX4_runStatement_112 : decode cX4_runStatement 112 = .ok (.aload_n 0, 1) := by decide +kernel
theorem dX4_runStatement_113 : decode cX4_runStatement 113 = .ok (.getfield 21, 3) := by decide +kernel
theorem dX4_runStatement_116 : decode cX4_runStatement 116 = .ok (.aload_n 0, 1) := by decide +kernel
theorem dX4_runStatement_117 : decode cX4_runStatement 117 = .ok (.getfield 17, 3) := by decide +kernel
theorem dX4_runStatement_120 : decode cX4_runStatement 120 = .ok (.invokevirtual 80, 3) := by decide +kernel
theorem dX4_runStatement_123 : decode cX4_runStatement 123 = .ok (.iconst 0, 1) := by decide +kernel
theorem dX4_runStatement_124 : decode cX4_runStatement 124 = .ok (.ireturn, 1) := by decide +kernel
theorem dX4_runStatement_125 : decode cX4_runStatement 125 = .ok (.aload_n 0, 1) := by decide +kernel
theorem dX4_runStatement_126 : decode cX4_runStatement 126 = .ok (.dup, 1) := by decide +kernel
theorem dX4_runStatement_127 : decode cX4_runStatement 127 = .ok (.getfield 36, 3) := by decide +kernel
theorem dX4_runStatement_130 : decode cX4_runStatement 130 = .ok (.iconst 1, 1) := by decide +kernel
theorem dX4_runStatement_131 : decode cX4_runStatement 131 = .ok (.iadd, 1) := by decide +kernel
theorem dX4_runStatement_132 : decode cX4_runStatement 132 = .ok (.putfield 36, 3) := by decide +kernel
theorem dX4_runStatement_135 : decode cX4_runStatement 135 = .ok (.aload_n 0, 1) := by decide +kernel
theorem dX4_runStatement_136 : decode cX4_runStatement 136 = .ok (.getfield 17, 3) := by decide +kernel
theorem dX4_runStatement_139 : decode cX4_runStatement 139 = .ok (.invokevirtual 86, 3) := by decide +kernel
theorem dX4_runStatement_142 : decode cX4_runStatement 142 = .ok (.invokestatic 90, 3) := by decide +kernel
theorem dX4_runStatement_145 : decode cX4_runStatement 145 = .ok (.ireturn, 1) := by decide +kernel
theorem dX4_runStatement_146 : decode cX4_runStatement 146 = .ok (.aload_n 0, 1) := by decide +kernel
theorem dX4_runStatement_147 : decode cX4_runStatement 147 = .ok (.iload_n 1, 1) := by decide +kernel
theorem dX4_runStatement_148 : decode cX4_runStatement 148 = .ok (.iload_n 2, 1) := by decide +kernel
theorem dX4_runStatement_149 : decode cX4_runStatement 149 = .ok (.invokevirtual 94, 3) := by decide +kernel
theorem dX4_runStatement_152 : decode cX4_runStatement 152 = .ok (.ireturn, 1) := by decide +kernel
theorem dX4_runStatement_153 : decode cX4_runStatement 153 = .ok (.aload_n 0, 1) := by decide +kernel
theorem dX4_runStatement_154 : decode cX4_runStatement 154 = .ok (.iload_n 1, 1) := by decide +kernel
theorem dX4_runStatement_155 : decode cX4_runStatement 155 = .ok (.iload_n 2, 1) := by decide +kernel
theorem dX4_runStatement_156 : decode cX4_runStatement 156 = .ok (.invokevirtual 97, 3) := by decide +kernel
theorem dX4_runStatement_159 : decode cX4_runStatement 159 = .ok (.ireturn, 1) := by decide +kernel
theorem dX4_runStatement_160 : decode cX4_runStatement 160 = .ok (.iconst 0, 1) := by decide +kernel
theorem dX4_runStatement_161 : decode cX4_runStatement 161 = .ok (.ireturn, 1) := by decide +kernel
theorem dX4_goesLeft_0 : decode cX4_goesLeft 0 = .ok (.aload_n 0, 1) := by decide +kernel
theorem dX4_goesLeft_1 : decode cX4_goesLeft 1 = .ok (.getfield 25, 3) := by decide +kernel
theorem dX4_goesLeft_4 : decode cX4_goesLeft 4 = .ok (.getfield 77, 3) := by decide +kernel
theorem dX4_goesLeft_7 : decode cX4_goesLeft 7 = .ok (.iload_n 1, 1) := by decide +kernel
theorem dX4_goesLeft_8 : decode cX4_goesLeft 8 = .ok (.iaload, 1) := by decide +kernel
theorem dX4_goesLeft_9 : decode cX4_goesLeft 9 = .ok (.istore_n 2, 1) := by decide +kernel
theorem dX4_goesLeft_10 : decode cX4_goesLeft 10 = .ok (.iload_n 2, 1) := by decide +kernel
theorem dX4_goesLeft_11 : decode cX4_goesLeft 11 = .ok (.iconst 4, 1) := by decide +kernel
theorem dX4_goesLeft_12 : decode cX4_goesLeft 12 = .ok (.if_icmp .eq 22, 3) := by decide +kernel
theorem dX4_goesLeft_15 : decode cX4_goesLeft 15 = .ok (.iload_n 2, 1) := by decide +kernel
theorem dX4_goesLeft_16 : decode cX4_goesLeft 16 = .ok (.bipush 6, 2) := by decide +kernel
theorem dX4_goesLeft_18 : decode cX4_goesLeft 18 = .ok (.if_icmp .ne 20, 3) := by decide +kernel
theorem dX4_goesLeft_21 : decode cX4_goesLeft 21 = .ok (.aload_n 0, 1) := by decide +kernel
theorem dX4_goesLeft_22 : decode cX4_goesLeft 22 = .ok (.getfield 17, 3) := by decide +kernel
theorem dX4_goesLeft_25 : decode cX4_goesLeft 25 = .ok (.getfield 65, 3) := by decide +kernel
theorem dX4_goesLeft_28 : decode cX4_goesLeft 28 = .ok (.getfield 100, 3) := by decide +kernel
theorem dX4_goesLeft_31 : decode cX4_goesLeft 31 = .ok (.ifCond .ne 7, 3) := by decide +kernel
theorem dX4_goesLeft_34 : decode cX4_goesLeft 34 = .ok (.iconst 1, 1) := by decide +kernel
theorem dX4_goesLeft_35 : decode cX4_goesLeft 35 = .ok (.goto 4, 3) := by decide +kernel
theorem dX4_goesLeft_38 : decode cX4_goesLeft 38 = .ok (.iconst 0, 1) := by decide +kernel
theorem dX4_goesLeft_39 : decode cX4_goesLeft 39 = .ok (.ireturn, 1) := by decide +kernel
theorem dX4_stepsOf_0 : decode cX4_stepsOf 0 = .ok (.aload_n 0, 1) := by decide +kernel
theorem dX4_stepsOf_1 : decode cX4_stepsOf 1 = .ok (.getfield 25, 3) := by decide +kernel
theorem dX4_stepsOf_4 : decode cX4_stepsOf 4 = .ok (.getfield 77, 3) := by decide +kernel
theorem dX4_stepsOf_7 : decode cX4_stepsOf 7 = .ok (.iload_n 1, 1) := by decide +kernel
theorem dX4_stepsOf_8 : decode cX4_stepsOf 8 = .ok (.iaload, 1) := by decide +kernel
theorem dX4_stepsOf_9 : decode cX4_stepsOf 9 = .ok (.istore_n 3, 1) := by decide +kernel
theorem dX4_stepsOf_10 : decode cX4_stepsOf 10 = .ok (.iload_n 3, 1) := by decide +kernel
theorem dX4_stepsOf_11 : decode cX4_stepsOf 11 = .ok (.bipush 6, 2) := by decide +kernel
theorem dX4_stepsOf_13 : decode cX4_stepsOf 13 = .ok (.if_icmp .le 5, 3) := by decide +kernel
theorem dX4_stepsOf_16 : decode cX4_stepsOf 16 = .ok (.iconst 0, 1) := by decide +kernel
theorem dX4_stepsOf_17 : decode cX4_stepsOf 17 = .ok (.ireturn, 1) := by decide +kernel
theorem dX4_stepsOf_18 : decode cX4_stepsOf 18 = .ok (.aload_n 0, 1) := by decide +kernel
theorem dX4_stepsOf_19 : decode cX4_stepsOf 19 = .ok (.iconst 2, 1) := by decide +kernel
theorem dX4_stepsOf_20 : decode cX4_stepsOf 20 = .ok (.iload_n 1, 1) := by decide +kernel
theorem dX4_stepsOf_21 : decode cX4_stepsOf 21 = .ok (.imul, 1) := by decide +kernel
theorem dX4_stepsOf_22 : decode cX4_stepsOf 22 = .ok (.invokevirtual 104, 3) := by decide +kernel
theorem dX4_stepsOf_25 : decode cX4_stepsOf 25 = .ok (.istore 4, 2) := by decide +kernel
theorem dX4_stepsOf_27 : decode cX4_stepsOf 27 = .ok (.iload_n 3, 1) := by decide +kernel
theorem dX4_stepsOf_28 : decode cX4_stepsOf 28 = .ok (.bipush 6, 2) := by decide +kernel
theorem dX4_stepsOf_30 : decode cX4_stepsOf 30 = .ok (.if_icmp .ne 37, 3) := by decide +kernel
theorem dX4_stepsOf_33 : decode cX4_stepsOf 33 = .ok (.iload 4, 2) := by decide +kernel
theorem dX4_stepsOf_35 : decode cX4_stepsOf 35 = .ok (.aload_n 0, 1) := by decide +kernel
theorem dX4_stepsOf_36 : decode cX4_stepsOf 36 = .ok (.getfield 17, 3) := by decide +kernel
theorem dX4_stepsOf_39 : decode cX4_stepsOf 39 = .ok (.getfield 65, 3) := by decide +kernel
theorem dX4_stepsOf_42 : decode cX4_stepsOf 42 = .ok (.getfield 107, 3) := by decide +kernel
theorem dX4_stepsOf_45 : decode cX4_stepsOf 45 = .ok (.if_icmp .ne 7, 3) := by decide +kernel
theorem dX4_stepsOf_48 : decode cX4_stepsOf 48 = .ok (.iconst 0, 1) := by decide +kernel
theorem dX4_stepsOf_49 : decode cX4_stepsOf 49 = .ok (.goto 17, 3) := by decide +kernel
theorem dX4_stepsOf_52 : decode cX4_stepsOf 52 = .ok (.aload_n 0, 1) := by decide +kernel
theorem dX4_stepsOf_53 : decode cX4_stepsOf 53 = .ok (.getfield 17, 3) := by decide +kernel
theorem dX4_stepsOf_56 : decode cX4_stepsOf 56 = .ok (.getfield 65, 3) := by decide +kernel
theorem dX4_stepsOf_59 : decode cX4_stepsOf 59 = .ok (.iload 4, 2) := by decide +kernel
theorem dX4_stepsOf_61 : decode cX4_stepsOf 61 = .ok (.iload_n 2, 1) := by decide +kernel
theorem dX4_stepsOf_62 : decode cX4_stepsOf 62 = .ok (.iconst 1, 1) := by decide +kernel
theorem dX4_stepsOf_63 : decode cX4_stepsOf 63 = .ok (.invokevirtual 110, 3) := by decide +kernel
theorem dX4_stepsOf_66 : decode cX4_stepsOf 66 = .ok (.ireturn, 1) := by decide +kernel
theorem dX4_stepsOf_67 : decode cX4_stepsOf 67 = .ok (.aload_n 0, 1) := by decide +kernel
theorem dX4_stepsOf_68 : decode cX4_stepsOf 68 = .ok (.getfield 17, 3) := by decide +kernel
theorem dX4_stepsOf_71 : decode cX4_stepsOf 71 = .ok (.getfield 65, 3) := by decide +kernel
theorem dX4_stepsOf_74 : decode cX4_stepsOf 74 = .ok (.iload 4, 2) := by decide +kernel
theorem dX4_stepsOf_76 : decode cX4_stepsOf 76 = .ok (.iload_n 2, 1) := by decide +kernel
theorem dX4_stepsOf_77 : decode cX4_stepsOf 77 = .ok (.aload_n 0, 1) := by decide +kernel
theorem dX4_stepsOf_78 : decode cX4_stepsOf 78 = .ok (.getfield 25, 3) := by decide +kernel
theorem dX4_stepsOf_81 : decode cX4_stepsOf 81 = .ok (.getfield 114, 3) := by decide +kernel
theorem dX4_stepsOf_84 : decode cX4_stepsOf 84 = .ok (.iload_n 1, 1) := by decide +kernel
theorem dX4_stepsOf_85 : decode cX4_stepsOf 85 = .ok (.iaload, 1) := by decide +kernel
theorem dX4_stepsOf_86 : decode cX4_stepsOf 86 = .ok (.invokevirtual 110, 3) := by decide +kernel
theorem dX4_stepsOf_89 : decode cX4_stepsOf 89 = .ok (.ireturn, 1) := by decide +kernel
theorem dX4_outcomeOfTry_0 : decode cX4_outcomeOfTry 0 = .ok (.iload_n 0, 1) := by decide +kernel
theorem dX4_outcomeOfTry_1 : decode cX4_outcomeOfTry 1 = .ok (.ifCond .ne 7, 3) := by decide +kernel
theorem dX4_outcomeOfTry_4 : decode cX4_outcomeOfTry 4 = .ok (.iconst 0, 1) := by decide +kernel
theorem dX4_outcomeOfTry_5 : decode cX4_outcomeOfTry 5 = .ok (.goto 6, 3) := by decide +kernel
theorem dX4_outcomeOfTry_8 : decode cX4_outcomeOfTry 8 = .ok (.iload_n 0, 1) := by decide +kernel
theorem dX4_outcomeOfTry_9 : decode cX4_outcomeOfTry 9 = .ok (.iconst 1, 1) := by decide +kernel
theorem dX4_outcomeOfTry_10 : decode cX4_outcomeOfTry 10 = .ok (.iadd, 1) := by decide +kernel
theorem dX4_outcomeOfTry_11 : decode cX4_outcomeOfTry 11 = .ok (.ireturn, 1) := by decide +kernel
theorem dX4_runAgain_0 : decode cX4_runAgain 0 = .ok (.iconst 0, 1) := by decide +kernel
theorem dX4_runAgain_1 : decode cX4_runAgain 1 = .ok (.istore_n 3, 1) := by decide +kernel
theorem dX4_runAgain_2 : decode cX4_runAgain 2 = .ok (.iload_n 3, 1) := by decide +kernel
theorem dX4_runAgain_3 : decode cX4_runAgain 3 = .ok (.aload_n 0, 1) := by decide +kernel
theorem dX4_runAgain_4 : decode cX4_runAgain 4 = .ok (.getfield 25, 3) := by decide +kernel
theorem dX4_runAgain_7 : decode cX4_runAgain 7 = .ok (.getfield 114, 3) := by decide +kernel
theorem dX4_runAgain_10 : decode cX4_runAgain 10 = .ok (.iload_n 1, 1) := by decide +kernel
theorem dX4_runAgain_11 : decode cX4_runAgain 11 = .ok (.iaload, 1) := by decide +kernel
theorem dX4_runAgain_12 : decode cX4_runAgain 12 = .ok (.if_icmp .ge 38, 3) := by decide +kernel
theorem dX4_runAgain_15 : decode cX4_runAgain 15 = .ok (.aload_n 0, 1) := by decide +kernel
theorem dX4_runAgain_16 : decode cX4_runAgain 16 = .ok (.iload_n 1, 1) := by decide +kernel
theorem dX4_runAgain_17 : decode cX4_runAgain 17 = .ok (.iconst 1, 1) := by decide +kernel
theorem dX4_runAgain_18 : decode cX4_runAgain 18 = .ok (.iadd, 1) := by decide +kernel
theorem dX4_runAgain_19 : decode cX4_runAgain 19 = .ok (.aload_n 0, 1) := by decide +kernel
theorem dX4_runAgain_20 : decode cX4_runAgain 20 = .ok (.getfield 25, 3) := by decide +kernel
theorem dX4_runAgain_23 : decode cX4_runAgain 23 = .ok (.getfield 48, 3) := by decide +kernel
theorem dX4_runAgain_26 : decode cX4_runAgain 26 = .ok (.iload_n 1, 1) := by decide +kernel
theorem dX4_runAgain_27 : decode cX4_runAgain 27 = .ok (.iaload, 1) := by decide +kernel
theorem dX4_runAgain_28 : decode cX4_runAgain 28 = .ok (.iload_n 2, 1) := by decide +kernel
theorem dX4_runAgain_29 : decode cX4_runAgain 29 = .ok (.iconst 1, 1) := by decide +kernel
theorem dX4_runAgain_30 : decode cX4_runAgain 30 = .ok (.iadd, 1) := by decide +kernel
theorem dX4_runAgain_31 : decode cX4_runAgain 31 = .ok (.invokevirtual 117, 3) := by decide +kernel
theorem dX4_runAgain_34 : decode cX4_runAgain 34 = .ok (.istore 4, 2) := by decide +kernel
theorem dX4_runAgain_36 : decode cX4_runAgain 36 = .ok (.iload 4, 2) := by decide +kernel
theorem dX4_runAgain_38 : decode cX4_runAgain 38 = .ok (.ifCond .eq 6, 3) := by decide +kernel
theorem dX4_runAgain_41 : decode cX4_runAgain 41 = .ok (.iload 4, 2) := by decide +kernel
theorem dX4_runAgain_43 : decode cX4_runAgain 43 = .ok (.ireturn, 1) := by decide +kernel
theorem dX4_runAgain_44 : decode cX4_runAgain 44 = .ok (.iinc 3 1, 3) := by decide +kernel
theorem dX4_runAgain_47 : decode cX4_runAgain 47 = .ok (.goto (-45), 3) := by decide +kernel
theorem dX4_runAgain_50 : decode cX4_runAgain 50 = .ok (.iconst 0, 1) := by decide +kernel
theorem dX4_runAgain_51 : decode cX4_runAgain 51 = .ok (.ireturn, 1) := by decide +kernel
theorem dX4_runEach_0 : decode cX4_runEach 0 = .ok (.aload_n 0, 1) := by decide +kernel
theorem dX4_runEach_1 : decode cX4_runEach 1 = .ok (.iconst 2, 1) := by decide +kernel
theorem dX4_runEach_2 : decode cX4_runEach 2 = .ok (.iload_n 1, 1) := by decide +kernel
theorem dX4_runEach_3 : decode cX4_runEach 3 = .ok (.imul, 1) := by decide +kernel
theorem dX4_runEach_4 : decode cX4_runEach 4 = .ok (.invokevirtual 104, 3) := by decide +kernel
theorem dX4_runEach_7 : decode cX4_runEach 7 = .ok (.istore_n 3, 1) := by decide +kernel
theorem dX4_runEach_8 : decode cX4_runEach 8 = .ok (.aload_n 0, 1) := by decide +kernel
theorem dX4_runEach_9 : decode cX4_runEach 9 = .ok (.getfield 17, 3) := by decide +kernel
theorem dX4_runEach_12 : decode cX4_runEach 12 = .ok (.getfield 65, 3) := by decide +kernel
theorem dX4_runEach_15 : decode cX4_runEach 15 = .ok (.aload_n 0, 1) := by decide +kernel
theorem dX4_runEach_16 : decode cX4_runEach 16 = .ok (.iconst 2, 1) := by decide +kernel
theorem dX4_runEach_17 : decode cX4_runEach 17 = .ok (.iload_n 1, 1) := by decide +kernel
theorem dX4_runEach_18 : decode cX4_runEach 18 = .ok (.imul, 1) := by decide +kernel
theorem dX4_runEach_19 : decode cX4_runEach 19 = .ok (.iconst 1, 1) := by decide +kernel
theorem dX4_runEach_20 : decode cX4_runEach 20 = .ok (.iadd, 1) := by decide +kernel
theorem dX4_runEach_21 : decode cX4_runEach 21 = .ok (.invokevirtual 104, 3) := by decide +kernel
theorem dX4_runEach_24 : decode cX4_runEach 24 = .ok (.iload_n 3, 1) := by decide +kernel
theorem dX4_runEach_25 : decode cX4_runEach 25 = .ok (.isub, 1) := by decide +kernel
theorem dX4_runEach_26 : decode cX4_runEach 26 = .ok (.invokevirtual 121, 3) := by decide +kernel
theorem dX4_runEach_29 : decode cX4_runEach 29 = .ok (.istore 4, 2) := by decide +kernel
theorem dX4_runEach_31 : decode cX4_runEach 31 = .ok (.iconst 1, 1) := by decide +kernel
theorem dX4_runEach_32 : decode cX4_runEach 32 = .ok (.aload_n 0, 1) := by decide +kernel
theorem dX4_runEach_33 : decode cX4_runEach 33 = .ok (.getfield 25, 3) := by decide +kernel
theorem dX4_runEach_36 : decode cX4_runEach 36 = .ok (.getfield 114, 3) := by decide +kernel
theorem dX4_runEach_39 : decode cX4_runEach 39 = .ok (.iload_n 1, 1) := by decide +kernel
theorem dX4_runEach_40 : decode cX4_runEach 40 = .ok (.iaload, 1) := by decide +kernel
theorem dX4_runEach_41 : decode cX4_runEach 41 = .ok (.invokestatic 51, 3) := by decide +kernel
theorem dX4_runEach_44 : decode cX4_runEach 44 = .ok (.istore 5, 2) := by decide +kernel
theorem dX4_runEach_46 : decode cX4_runEach 46 = .ok (.iconst 0, 1) := by decide +kernel
theorem dX4_runEach_47 : decode cX4_runEach 47 = .ok (.istore 6, 2) := by decide +kernel
theorem dX4_runEach_49 : decode cX4_runEach 49 = .ok (.iload 6, 2) := by decide +kernel
theorem dX4_runEach_51 : decode cX4_runEach 51 = .ok (.iload 4, 2) := by decide +kernel
theorem dX4_runEach_53 : decode cX4_runEach 53 = .ok (.if_icmp .gt 70, 3) := by decide +kernel
theorem dX4_runEach_56 : decode cX4_runEach 56 = .ok (.aload_n 0, 1) := by decide +kernel
theorem dX4_runEach_57 : decode cX4_runEach 57 = .ok (.getfield 11, 3) := by decide +kernel
theorem dX4_runEach_60 : decode cX4_runEach 60 = .ok (.aload_n 0, 1) := by decide +kernel
theorem dX4_runEach_61 : decode cX4_runEach 61 = .ok (.getfield 25, 3) := by decide +kernel
theorem dX4_runEach_64 : decode cX4_runEach 64 = .ok (.getfield 124, 3) := by decide +kernel
theorem dX4_runEach_67 : decode cX4_runEach 67 = .ok (.iload_n 1, 1) := by decide +kernel
theorem dX4_runEach_68 : decode cX4_runEach 68 = .ok (.iaload, 1) := by decide +kernel
theorem dX4_runEach_69 : decode cX4_runEach 69 = .ok (.aload_n 0, 1) := by decide +kernel
theorem dX4_runEach_70 : decode cX4_runEach 70 = .ok (.getfield 17, 3) := by decide +kernel
theorem dX4_runEach_73 : decode cX4_runEach 73 = .ok (.getfield 65, 3) := by decide +kernel
theorem dX4_runEach_76 : decode cX4_runEach 76 = .ok (.iload_n 3, 1) := by decide +kernel
theorem dX4_runEach_77 : decode cX4_runEach 77 = .ok (.iload 6, 2) := by decide +kernel
theorem dX4_runEach_79 : decode cX4_runEach 79 = .ok (.iadd, 1) := by decide +kernel
theorem dX4_runEach_80 : decode cX4_runEach 80 = .ok (.invokevirtual 121, 3) := by decide +kernel
theorem dX4_runEach_83 : decode cX4_runEach 83 = .ok (.iastore, 1) := by decide +kernel
theorem dX4_runEach_84 : decode cX4_runEach 84 = .ok (.aload_n 0, 1) := by decide +kernel
theorem dX4_runEach_85 : decode cX4_runEach 85 = .ok (.iload_n 1, 1) := by decide +kernel
theorem dX4_runEach_86 : decode cX4_runEach 86 = .ok (.iconst 1, 1) := by decide +kernel
theorem dX4_runEach_87 : decode cX4_runEach 87 = .ok (.iadd, 1) := by decide +kernel
theorem dX4_runEach_88 : decode cX4_runEach 88 = .ok (.aload_n 0, 1) := by decide +kernel
theorem dX4_runEach_89 : decode cX4_runEach 89 = .ok (.getfield 25, 3) := by decide +kernel
theorem dX4_runEach_92 : decode cX4_runEach 92 = .ok (.getfield 48, 3) := by decide +kernel
theorem dX4_runEach_95 : decode cX4_runEach 95 = .ok (.iload_n 1, 1) := by decide +kernel
theorem dX4_runEach_96 : decode cX4_runEach 96 = .ok (.iaload, 1) := by decide +kernel
theorem dX4_runEach_97 : decode cX4_runEach 97 = .ok (.iload_n 2, 1) := by decide +kernel
theorem dX4_runEach_98 : decode cX4_runEach 98 = .ok (.iconst 1, 1) := by decide +kernel
theorem dX4_runEach_99 : decode cX4_runEach 99 = .ok (.iadd, 1) := by decide +kernel
theorem dX4_runEach_100 : decode cX4_runEach 100 = .ok (.invokevirtual 117, 3) := by decide +kernel
theorem dX4_runEach_103 : decode cX4_runEach 103 = .ok (.istore 7, 2) := by decide +kernel
theorem dX4_runEach_105 : decode cX4_runEach 105 = .ok (.iload 7, 2) := by decide +kernel
theorem dX4_runEach_107 : decode cX4_runEach 107 = .ok (.ifCond .eq 6, 3) := by decide +kernel
theorem dX4_runEach_110 : decode cX4_runEach 110 = .ok (.iload 7, 2) := by decide +kernel
theorem dX4_runEach_112 : decode cX4_runEach 112 = .ok (.ireturn, 1) := by decide +kernel
theorem dX4_runEach_113 : decode cX4_runEach 113 = .ok (.iload 6, 2) := by decide +kernel
theorem dX4_runEach_115 : decode cX4_runEach 115 = .ok (.iload 5, 2) := by decide +kernel
theorem dX4_runEach_117 : decode cX4_runEach 117 = .ok (.iadd, 1) := by decide +kernel
theorem dX4_runEach_118 : decode cX4_runEach 118 = .ok (.istore 6, 2) := by decide +kernel
theorem dX4_runEach_120 : decode cX4_runEach 120 = .ok (.goto (-71), 3) := by decide +kernel
theorem dX4_runEach_123 : decode cX4_runEach 123 = .ok (.iconst 0, 1) := by decide +kernel
theorem dX4_runEach_124 : decode cX4_runEach 124 = .ok (.ireturn, 1) := by decide +kernel
theorem dX4_valueOf_0 : decode cX4_valueOf 0 = .ok (.aload_n 0, 1) := by decide +kernel
theorem dX4_valueOf_1 : decode cX4_valueOf 1 = .ok (.getfield 25, 3) := by decide +kernel
theorem dX4_valueOf_4 : decode cX4_valueOf 4 = .ok (.getfield 127, 3) := by decide +kernel
theorem dX4_valueOf_7 : decode cX4_valueOf 7 = .ok (.iload_n 1, 1) := by decide +kernel
theorem dX4_valueOf_8 : decode cX4_valueOf 8 = .ok (.iaload, 1) := by decide +kernel
theorem dX4_valueOf_9 : decode cX4_valueOf 9 = .ok (.istore_n 2, 1) := by decide +kernel
theorem dX4_valueOf_10 : decode cX4_valueOf 10 = .ok (.iload_n 2, 1) := by decide +kernel
theorem dX4_valueOf_11 : decode cX4_valueOf 11 = .ok (.iconst (-1), 1) := by decide +kernel
theorem dX4_valueOf_12 : decode cX4_valueOf 12 = .ok (.if_icmp .ne 7, 3) := by decide +kernel
theorem dX4_valueOf_15 : decode cX4_valueOf 15 = .ok (.iconst 0, 1) := by decide +kernel
theorem dX4_valueOf_16 : decode cX4_valueOf 16 = .ok (.goto 9, 3) := by decide +kernel
theorem dX4_valueOf_19 : decode cX4_valueOf 19 = .ok (.aload_n 0, 1) := by decide +kernel
theorem dX4_valueOf_20 : decode cX4_valueOf 20 = .ok (.getfield 11, 3) := by decide +kernel
theorem dX4_valueOf_23 : decode cX4_valueOf 23 = .ok (.iload_n 2, 1) := by decide +kernel
theorem dX4_valueOf_24 : decode cX4_valueOf 24 = .ok (.iaload, 1) := by decide +kernel
theorem dX4_valueOf_25 : decode cX4_valueOf 25 = .ok (.istore_n 3, 1) := by decide +kernel
theorem dX4_valueOf_26 : decode cX4_valueOf 26 = .ok (.aload_n 0, 1) := by decide +kernel
theorem dX4_valueOf_27 : decode cX4_valueOf 27 = .ok (.getfield 17, 3) := by decide +kernel
theorem dX4_valueOf_30 : decode cX4_valueOf 30 = .ok (.getfield 65, 3) := by decide +kernel
theorem dX4_valueOf_33 : decode cX4_valueOf 33 = .ok (.iload_n 3, 1) := by decide +kernel
theorem dX4_valueOf_34 : decode cX4_valueOf 34 = .ok (.aload_n 0, 1) := by decide +kernel
theorem dX4_valueOf_35 : decode cX4_valueOf 35 = .ok (.getfield 25, 3) := by decide +kernel
theorem dX4_valueOf_38 : decode cX4_valueOf 38 = .ok (.getfield 130, 3) := by decide +kernel
theorem dX4_valueOf_41 : decode cX4_valueOf 41 = .ok (.iload_n 1, 1) := by decide +kernel
theorem dX4_valueOf_42 : decode cX4_valueOf 42 = .ok (.iaload, 1) := by decide +kernel
theorem dX4_valueOf_43 : decode cX4_valueOf 43 = .ok (.iadd, 1) := by decide +kernel
theorem dX4_valueOf_44 : decode cX4_valueOf 44 = .ok (.invokevirtual 121, 3) := by decide +kernel
theorem dX4_valueOf_47 : decode cX4_valueOf 47 = .ok (.ireturn, 1) := by decide +kernel
theorem dX5_init_0 : decode cX5_init 0 = .ok (.aload_n 0, 1) := by decide +kernel
theorem dX5_init_1 : decode cX5_init 1 = .ok (.invokespecial 3, 3) := by decide +kernel
theorem dX5_init_4 : decode cX5_init 4 = .ok (.aload_n 0, 1) := by decide +kernel
theorem dX5_init_5 : decode cX5_init 5 = .ok (.new 9, 3) := by decide +kernel
theorem dX5_init_8 : decode cX5_init 8 = .ok (.dup, 1) := by decide +kernel
theorem dX5_init_9 : decode cX5_init 9 = .ok (.invokespecial 11, 3) := by decide +kernel
theorem dX5_init_12 : decode cX5_init 12 = .ok (.putfield 12, 3) := by decide +kernel
theorem dX5_init_15 : decode cX5_init 15 = .ok (.aload_n 0, 1) := by decide +kernel
theorem dX5_init_16 : decode cX5_init 16 = .ok (.iconst 4, 1) := by decide +kernel
theorem dX5_init_17 : decode cX5_init 17 = .ok (.anewarray 18, 3) := by decide +kernel
theorem dX5_init_20 : decode cX5_init 20 = .ok (.putfield 20, 3) := by decide +kernel
theorem dX5_init_23 : decode cX5_init 23 = .ok (.iconst 0, 1) := by decide +kernel
theorem dX5_init_24 : decode cX5_init 24 = .ok (.istore_n 1, 1) := by decide +kernel
theorem dX5_init_25 : decode cX5_init 25 = .ok (.iload_n 1, 1) := by decide +kernel
theorem dX5_init_26 : decode cX5_init 26 = .ok (.iconst 4, 1) := by decide +kernel
theorem dX5_init_27 : decode cX5_init 27 = .ok (.if_icmp .ge 22, 3) := by decide +kernel
theorem dX5_init_30 : decode cX5_init 30 = .ok (.aload_n 0, 1) := by decide +kernel
theorem dX5_init_31 : decode cX5_init 31 = .ok (.getfield 20, 3) := by decide +kernel
theorem dX5_init_34 : decode cX5_init 34 = .ok (.iload_n 1, 1) := by decide +kernel
theorem dX5_init_35 : decode cX5_init 35 = .ok (.new 18, 3) := by decide +kernel
theorem dX5_init_38 : decode cX5_init 38 = .ok (.dup, 1) := by decide +kernel
theorem dX5_init_39 : decode cX5_init 39 = .ok (.invokespecial 24, 3) := by decide +kernel
theorem dX5_init_42 : decode cX5_init 42 = .ok (.aastore, 1) := by decide +kernel
theorem dX5_init_43 : decode cX5_init 43 = .ok (.iinc 1 1, 3) := by decide +kernel
theorem dX5_init_46 : decode cX5_init 46 = .ok (.goto (-21), 3) := by decide +kernel
theorem dX5_init_49 : decode cX5_init 49 = .ok (.return_, 1) := by decide +kernel
theorem dX5_renew_0 : decode cX5_renew 0 = .ok (.aload_n 0, 1) := by decide +kernel
theorem dX5_renew_1 : decode cX5_renew 1 = .ok (.getfield 12, 3) := by decide +kernel
theorem dX5_renew_4 : decode cX5_renew 4 = .ok (.iload_n 1, 1) := by decide +kernel
theorem dX5_renew_5 : decode cX5_renew 5 = .ok (.putfield 25, 3) := by decide +kernel
theorem dX5_renew_8 : decode cX5_renew 8 = .ok (.aload_n 0, 1) := by decide +kernel
theorem dX5_renew_9 : decode cX5_renew 9 = .ok (.getfield 12, 3) := by decide +kernel
theorem dX5_renew_12 : decode cX5_renew 12 = .ok (.iconst 0, 1) := by decide +kernel
theorem dX5_renew_13 : decode cX5_renew 13 = .ok (.putfield 29, 3) := by decide +kernel
theorem dX5_renew_16 : decode cX5_renew 16 = .ok (.aload_n 0, 1) := by decide +kernel
theorem dX5_renew_17 : decode cX5_renew 17 = .ok (.getfield 12, 3) := by decide +kernel
theorem dX5_renew_20 : decode cX5_renew 20 = .ok (.invokevirtual 32, 3) := by decide +kernel
theorem dX5_renew_23 : decode cX5_renew 23 = .ok (.aload_n 0, 1) := by decide +kernel
theorem dX5_renew_24 : decode cX5_renew 24 = .ok (.getfield 12, 3) := by decide +kernel
theorem dX5_renew_27 : decode cX5_renew 27 = .ok (.iconst 0, 1) := by decide +kernel
theorem dX5_renew_28 : decode cX5_renew 28 = .ok (.putfield 35, 3) := by decide +kernel
theorem dX5_renew_31 : decode cX5_renew 31 = .ok (.aload_n 0, 1) := by decide +kernel
theorem dX5_renew_32 : decode cX5_renew 32 = .ok (.iconst 0, 1) := by decide +kernel
theorem dX5_renew_33 : decode cX5_renew 33 = .ok (.putfield 39, 3) := by decide +kernel
theorem dX5_renew_36 : decode cX5_renew 36 = .ok (.return_, 1) := by decide +kernel
theorem dX5_hasWheel_0 : decode cX5_hasWheel 0 = .ok (.iload_n 1, 1) := by decide +kernel
theorem dX5_hasWheel_1 : decode cX5_hasWheel 1 = .ok (.ifCond .lt 18, 3) := by decide +kernel
theorem dX5_hasWheel_4 : decode cX5_hasWheel 4 = .ok (.iload_n 1, 1) := by decide +kernel
theorem dX5_hasWheel_5 : decode cX5_hasWheel 5 = .ok (.aload_n 0, 1) := by decide +kernel
theorem dX5_hasWheel_6 : decode cX5_hasWheel 6 = .ok (.getfield 12, 3) := by decide +kernel
theorem dX5_hasWheel_9 : decode cX5_hasWheel 9 = .ok (.getfield 29, 3) := by decide +kernel
theorem dX5_hasWheel_12 : decode cX5_hasWheel 12 = .ok (.if_icmp .ge 7, 3) := by decide +kernel
theorem dX5_hasWheel_15 : decode cX5_hasWheel 15 = .ok (.iconst 1, 1) := by decide +kernel
theorem dX5_hasWheel_16 : decode cX5_hasWheel 16 = .ok (.goto 4, 3) := by decide +kernel
theorem dX5_hasWheel_19 : decode cX5_hasWheel 19 = .ok (.iconst 0, 1) := by decide +kernel
theorem dX5_hasWheel_20 : decode cX5_hasWheel 20 = .ok (.ireturn, 1) := by decide +kernel
theorem dX5_hasNumber_0 : decode cX5_hasNumber 0 = .ok (.iload_n 1, 1) := by decide +kernel
theorem dX5_hasNumber_1 : decode cX5_hasNumber 1 = .ok (.ifCond .lt 18, 3) := by decide +kernel
theorem dX5_hasNumber_4 : decode cX5_hasNumber 4 = .ok (.iload_n 1, 1) := by decide +kernel
theorem dX5_hasNumber_5 : decode cX5_hasNumber 5 = .ok (.aload_n 0, 1) := by decide +kernel
theorem dX5_hasNumber_6 : decode cX5_hasNumber 6 = .ok (.getfield 12, 3) := by decide +kernel
theorem dX5_hasNumber_9 : decode cX5_hasNumber 9 = .ok (.getfield 25, 3) := by decide +kernel
theorem dX5_hasNumber_12 : decode cX5_hasNumber 12 = .ok (.if_icmp .ge 7, 3) := by decide +kernel
theorem dX5_hasNumber_15 : decode cX5_hasNumber 15 = .ok (.iconst 1, 1) := by decide +kernel
theorem dX5_hasNumber_16 : decode cX5_hasNumber 16 = .ok (.goto 4, 3) := by decide +kernel
theorem dX5_hasNumber_19 : decode cX5_hasNumber 19 = .ok (.iconst 0, 1) := by decide +kernel
theorem dX5_hasNumber_20 : decode cX5_hasNumber 20 = .ok (.ireturn, 1) := by decide +kernel
theorem dX5_radiusWithoutGates_0 : decode cX5_radiusWithoutGates 0 = .ok (.aload_n 0, 1) := by decide +kernel
theorem dX5_radiusWithoutGates_1 : decode cX5_radiusWithoutGates 1 = .ok (.getfield 20, 3) := by decide +kernel
theorem dX5_radiusWithoutGates_4 : decode cX5_radiusWithoutGates 4 = .ok (.iload_n 1, 1) := by decide +kernel
theorem dX5_radiusWithoutGates_5 : decode cX5_radiusWithoutGates 5 = .ok (.aaload, 1) := by decide +kernel
theorem dX5_radiusWithoutGates_6 : decode cX5_radiusWithoutGates 6 = .ok (.astore_n 3, 1) := by decide +kernel
theorem dX5_radiusWithoutGates_7 : decode cX5_radiusWithoutGates 7 = .ok (.aload_n 3, 1) := by decide +kernel
theorem dX5_radiusWithoutGates_8 : decode cX5_radiusWithoutGates 8 = .ok (.getfield 42, 3) := by decide +kernel
theorem dX5_radiusWithoutGates_11 : decode cX5_radiusWithoutGates 11 = .ok (.aload_n 3, 1) := by decide +kernel
theorem dX5_radiusWithoutGates_12 : decode cX5_radiusWithoutGates 12 = .ok (.getfield 45, 3) := by decide +kernel
theorem dX5_radiusWithoutGates_15 : decode cX5_radiusWithoutGates 15 = .ok (.aload_n 0, 1) := by decide +kernel
theorem dX5_radiusWithoutGates_16 : decode cX5_radiusWithoutGates 16 = .ok (.getfield 12, 3) := by decide +kernel
theorem dX5_radiusWithoutGates_19 : decode cX5_radiusWithoutGates 19 = .ok (.iload_n 2, 1) := by decide +kernel
theorem dX5_radiusWithoutGates_20 : decode cX5_radiusWithoutGates 20 = .ok (.aload_n 3, 1) := by decide +kernel
theorem dX5_radiusWithoutGates_21 : decode cX5_radiusWithoutGates 21 = .ok (.getfield 48, 3) := by decide +kernel
theorem dX5_radiusWithoutGates_24 : decode cX5_radiusWithoutGates 24 = .ok (.invokevirtual 51, 3) := by decide +kernel
theorem dX5_radiusWithoutGates_27 : decode cX5_radiusWithoutGates 27 = .ok (.imul, 1) := by decide +kernel
theorem dX5_radiusWithoutGates_28 : decode cX5_radiusWithoutGates 28 = .ok (.iconst 1, 1) := by decide +kernel
theorem dX5_radiusWithoutGates_29 : decode cX5_radiusWithoutGates 29 = .ok (.aload_n 0, 1) := by decide +kernel
theorem dX5_radiusWithoutGates_30 : decode cX5_radiusWithoutGates 30 = .ok (.getfield 12, 3) := by decide +kernel
theorem dX5_radiusWithoutGates_33 : decode cX5_radiusWithoutGates 33 = .ok (.getfield 25, 3) := by decide +kernel
theorem dX5_radiusWithoutGates_36 : decode cX5_radiusWithoutGates 36 = .ok (.iconst 2, 1) := by decide +kernel
theorem dX5_radiusWithoutGates_37 : decode cX5_radiusWithoutGates 37 = .ok (.idiv, 1) := by decide +kernel
theorem dX5_radiusWithoutGates_38 : decode cX5_radiusWithoutGates 38 = .ok (.invokestatic 55, 3) := by decide +kernel
theorem dX5_radiusWithoutGates_41 : decode cX5_radiusWithoutGates 41 = .ok (.idiv, 1) := by decide +kernel
theorem dX5_radiusWithoutGates_42 : decode cX5_radiusWithoutGates 42 = .ok (.isub, 1) := by decide +kernel
theorem dX5_radiusWithoutGates_43 : decode cX5_radiusWithoutGates 43 = .ok (.ireturn, 1) := by decide +kernel
theorem dX5_radius_0 : decode cX5_radius 0 = .ok (.aload_n 0, 1) := by decide +kernel
theorem dX5_radius_1 : decode cX5_radius 1 = .ok (.getfield 20, 3) := by decide +kernel
theorem dX5_radius_4 : decode cX5_radius 4 = .ok (.iload_n 1, 1) := by decide +kernel
theorem dX5_radius_5 : decode cX5_radius 5 = .ok (.aaload, 1) := by decide +kernel
theorem dX5_radius_6 : decode cX5_radius 6 = .ok (.astore_n 2, 1) := by decide +kernel
theorem dX5_radius_7 : decode cX5_radius 7 = .ok (.aload_n 0, 1) := by decide +kernel
theorem dX5_radius_8 : decode cX5_radius 8 = .ok (.getfield 12, 3) := by decide +kernel
theorem dX5_radius_11 : decode cX5_radius 11 = .ok (.getfield 60, 3) := by decide +kernel
theorem dX5_radius_14 : decode cX5_radius 14 = .ok (.iload_n 1, 1) := by decide +kernel
theorem dX5_radius_15 : decode cX5_radius 15 = .ok (.iaload, 1) := by decide +kernel
theorem dX5_radius_16 : decode cX5_radius 16 = .ok (.istore_n 3, 1) := by decide +kernel
theorem dX5_radius_17 : decode cX5_radius 17 = .ok (.aload_n 0, 1) := by decide +kernel
theorem dX5_radius_18 : decode cX5_radius 18 = .ok (.getfield 12, 3) := by decide +kernel
theorem dX5_radius_21 : decode cX5_radius 21 = .ok (.iload_n 3, 1) := by decide +kernel
theorem dX5_radius_22 : decode cX5_radius 22 = .ok (.aload_n 2, 1) := by decide +kernel
theorem dX5_radius_23 : decode cX5_radius 23 = .ok (.getfield 64, 3) := by decide +kernel
theorem dX5_radius_26 : decode cX5_radius 26 = .ok (.invokevirtual 51, 3) := by decide +kernel
theorem dX5_radius_29 : decode cX5_radius 29 = .ok (.istore 4, 2) := by decide +kernel
theorem dX5_radius_31 : decode cX5_radius 31 = .ok (.aload_n 2, 1) := by decide +kernel
theorem dX5_radius_32 : decode cX5_radius 32 = .ok (.getfield 67, 3) := by decide +kernel
theorem dX5_radius_35 : decode cX5_radius 35 = .ok (.iconst (-1), 1) := by decide +kernel
theorem dX5_radius_36 : decode cX5_radius 36 = .ok (.if_icmp .eq 22, 3) := by decide +kernel
theorem dX5_radius_39 : decode cX5_radius 39 = .ok (.iload 4, 2) := by decide +kernel
theorem dX5_radius_41 : decode cX5_radius 41 = .ok (.aload_n 0, 1) := by decide +kernel
theorem dX5_radius_42 : decode cX5_radius 42 = .ok (.getfield 12, 3) := by decide +kernel
theorem dX5_radius_45 : decode cX5_radius 45 = .ok (.iload_n 3, 1) := by decide +kernel
theorem dX5_radius_46 : decode cX5_radius 46 = .ok (.aload_n 2, 1) := by decide +kernel
theorem dX5_radius_47 : decode cX5_radius 47 = .ok (.getfield 67, 3) := by decide +kernel
theorem dX5_radius_50 : decode cX5_radius 50 = .ok (.invokevirtual 51, 3) := by decide +kernel
theorem dX5_radius_53 : decode cX5_radius 53 = .ok (.invokestatic 70, 3) := by decide +kernel
theorem dX5_radius_56 : decode cX5_radius 56 = .ok (.istore 4, 2) := by decide +kernel
theorem dX5_radius_58 : decode cX5_radius 58 = .ok (.iload 4, 2) := by decide +kernel
theorem dX5_radius_60 : decode cX5_radius 60 = .ok (.aload_n 2, 1) := by decide +kernel
theorem dX5_radius_61 : decode cX5_radius 61 = .ok (.getfield 73, 3) := by decide +kernel
theorem dX5_radius_64 : decode cX5_radius 64 = .ok (.if_icmp .gt 5, 3) := by decide +kernel
theorem dX5_radius_67 : decode cX5_radius 67 = .ok (.iconst 0, 1) := by decide +kernel
theorem dX5_radius_68 : decode cX5_radius 68 = .ok (.ireturn, 1) := by decide +kernel
theorem dX5_radius_69 : decode cX5_radius 69 = .ok (.aload_n 0, 1) := by decide +kernel
theorem dX5_radius_70 : decode cX5_radius 70 = .ok (.iload_n 1, 1) := by decide +kernel
theorem dX5_radius_71 : decode cX5_radius 71 = .ok (.iload_n 3, 1) := by decide +kernel
theorem dX5_radius_72 : decode cX5_radius 72 = .ok (.invokevirtual 76, 3) := by decide +kernel
theorem dX5_radius_75 : decode cX5_radius 75 = .ok (.istore 5, 2) := by decide +kernel
theorem dX5_radius_77 : decode cX5_radius 77 = .ok (.iload 4, 2) := by decide +kernel
theorem dX5_radius_79 : decode cX5_radius 79 = .ok (.aload_n 2, 1) := by decide +kernel
theorem dX5_radius_80 : decode cX5_radius 80 = .ok (.getfield 73, 3) := by decide +kernel
theorem dX5_radius_83 : decode cX5_radius 83 = .ok (.iconst 1, 1) := by decide +kernel
theorem dX5_radius_84 : decode cX5_radius 84 = .ok (.iadd, 1) := by decide +kernel
theorem dX5_radius_85 : decode cX5_radius 85 = .ok (.if_icmp .ne 13, 3) := by decide +kernel
theorem dX5_radius_88 : decode cX5_radius 88 = .ok (.iload 5, 2) := by decide +kernel
theorem dX5_radius_90 : decode cX5_radius 90 = .ok (.aload_n 2, 1) := by decide +kernel
theorem dX5_radius_91 : decode cX5_radius 91 = .ok (.getfield 79, 3) := by decide +kernel
theorem dX5_radius_94 : decode cX5_radius 94 = .ok (.isub, 1) := by decide +kernel
theorem dX5_radius_95 : decode cX5_radius 95 = .ok (.goto 5, 3) := by decide +kernel
theorem dX5_radius_98 : decode cX5_radius 98 = .ok (.iload 5, 2) := by decide +kernel
theorem dX5_radius_100 : decode cX5_radius 100 = .ok (.ireturn, 1) := by decide +kernel
theorem dX5_isIn_0 : decode cX5_isIn 0 = .ok (.aload_n 0, 1) := by decide +kernel
theorem dX5_isIn_1 : decode cX5_isIn 1 = .ok (.iload_n 1, 1) := by decide +kernel
theorem dX5_isIn_2 : decode cX5_isIn 2 = .ok (.invokevirtual 82, 3) := by decide +kernel
theorem dX5_isIn_5 : decode cX5_isIn 5 = .ok (.ifCond .ne 7, 3) := by decide +kernel
theorem dX5_isIn_8 : decode cX5_isIn 8 = .ok (.iconst 1, 1) := by decide +kernel
theorem dX5_isIn_9 : decode cX5_isIn 9 = .ok (.goto 4, 3) := by decide +kernel
theorem dX5_isIn_12 : decode cX5_isIn 12 = .ok (.iconst 0, 1) := by decide +kernel
theorem dX5_isIn_13 : decode cX5_isIn 13 = .ok (.ireturn, 1) := by decide +kernel
theorem dX5_isInByGate_0 : decode cX5_isInByGate 0 = .ok (.aload_n 0, 1) := by decide +kernel
theorem dX5_isInByGate_1 : decode cX5_isInByGate 1 = .ok (.getfield 12, 3) := by decide +kernel
theorem dX5_isInByGate_4 : decode cX5_isInByGate 4 = .ok (.aload_n 0, 1) := by decide +kernel
theorem dX5_isInByGate_5 : decode cX5_isInByGate 5 = .ok (.getfield 12, 3) := by decide +kernel
theorem dX5_isInByGate_8 : decode cX5_isInByGate 8 = .ok (.getfield 60, 3) := by decide +kernel
theorem dX5_isInByGate_11 : decode cX5_isInByGate 11 = .ok (.iload_n 1, 1) := by decide +kernel
theorem dX5_isInByGate_12 : decode cX5_isInByGate 12 = .ok (.iaload, 1) := by decide +kernel
theorem dX5_isInByGate_13 : decode cX5_isInByGate 13 = .ok (.aload_n 0, 1) := by decide +kernel
theorem dX5_isInByGate_14 : decode cX5_isInByGate 14 = .ok (.getfield 20, 3) := by decide +kernel
theorem dX5_isInByGate_17 : decode cX5_isInByGate 17 = .ok (.iload_n 1, 1) := by decide +kernel
theorem dX5_isInByGate_18 : decode cX5_isInByGate 18 = .ok (.aaload, 1) := by decide +kernel
theorem dX5_isInByGate_19 : decode cX5_isInByGate 19 = .ok (.getfield 64, 3) := by decide +kernel
theorem dX5_isInByGate_22 : decode cX5_isInByGate 22 = .ok (.invokevirtual 51, 3) := by decide +kernel
theorem dX5_isInByGate_25 : decode cX5_isInByGate 25 = .ok (.aload_n 0, 1) := by decide +kernel
theorem dX5_isInByGate_26 : decode cX5_isInByGate 26 = .ok (.getfield 20, 3) := by decide +kernel
theorem dX5_isInByGate_29 : decode cX5_isInByGate 29 = .ok (.iload_n 1, 1) := by decide +kernel
theorem dX5_isInByGate_30 : decode cX5_isInByGate 30 = .ok (.aaload, 1) := by decide +kernel
theorem dX5_isInByGate_31 : decode cX5_isInByGate 31 = .ok (.getfield 73, 3) := by decide +kernel
theorem dX5_isInByGate_34 : decode cX5_isInByGate 34 = .ok (.if_icmp .gt 7, 3) := by decide +kernel
theorem dX5_isInByGate_37 : decode cX5_isInByGate 37 = .ok (.iconst 1, 1) := by decide +kernel
theorem dX5_isInByGate_38 : decode cX5_isInByGate 38 = .ok (.goto 4, 3) := by decide +kernel
theorem dX5_isInByGate_41 : decode cX5_isInByGate 41 = .ok (.iconst 0, 1) := by decide +kernel
theorem dX5_isInByGate_42 : decode cX5_isInByGate 42 = .ok (.ireturn, 1) := by decide +kernel
theorem dX5_leverHeight_0 : decode cX5_leverHeight 0 = .ok (.iconst 0, 1) := by decide +kernel
theorem dX5_leverHeight_1 : decode cX5_leverHeight 1 = .ok (.istore_n 1, 1) := by decide +kernel
theorem dX5_leverHeight_2 : decode cX5_leverHeight 2 = .ok (.iconst 0, 1) := by decide +kernel
theorem dX5_leverHeight_3 : decode cX5_leverHeight 3 = .ok (.istore_n 2, 1) := by decide +kernel
theorem dX5_leverHeight_4 : decode cX5_leverHeight 4 = .ok (.iload_n 2, 1) := by decide +kernel
theorem dX5_leverHeight_5 : decode cX5_leverHeight 5 = .ok (.aload_n 0, 1) := by decide +kernel
theorem dX5_leverHeight_6 : decode cX5_leverHeight 6 = .ok (.getfield 12, 3) := by decide +kernel
theorem dX5_leverHeight_9 : decode cX5_leverHeight 9 = .ok (.getfield 29, 3) := by decide +kernel
theorem dX5_leverHeight_12 : decode cX5_leverHeight 12 = .ok (.if_icmp .ge 19, 3) := by decide +kernel
theorem dX5_leverHeight_15 : decode cX5_leverHeight 15 = .ok (.iload_n 1, 1) := by decide +kernel
theorem dX5_leverHeight_16 : decode cX5_leverHeight 16 = .ok (.aload_n 0, 1) := by decide +kernel
theorem dX5_leverHeight_17 : decode cX5_leverHeight 17 = .ok (.iload_n 2, 1) := by decide +kernel
theorem dX5_leverHeight_18 : decode cX5_leverHeight 18 = .ok (.invokevirtual 82, 3) := by decide +kernel
theorem dX5_leverHeight_21 : decode cX5_leverHeight 21 = .ok (.invokestatic 55, 3) := by decide +kernel
theorem dX5_leverHeight_24 : decode cX5_leverHeight 24 = .ok (.istore_n 1, 1) := by decide +kernel
theorem dX5_leverHeight_25 : decode cX5_leverHeight 25 = .ok (.iinc 2 1, 3) := by decide +kernel
theorem dX5_leverHeight_28 : decode cX5_leverHeight 28 = .ok (.goto (-24), 3) := by decide +kernel
theorem dX5_leverHeight_31 : decode cX5_leverHeight 31 = .ok (.iload_n 1, 1) := by decide +kernel
theorem dX5_leverHeight_32 : decode cX5_leverHeight 32 = .ok (.ireturn, 1) := by decide +kernel
theorem dX5_tryLever_0 : decode cX5_tryLever 0 = .ok (.aload_n 0, 1) := by decide +kernel
theorem dX5_tryLever_1 : decode cX5_tryLever 1 = .ok (.getfield 39, 3) := by decide +kernel
theorem dX5_tryLever_4 : decode cX5_tryLever 4 = .ok (.ifCond .ne 10, 3) := by decide +kernel
theorem dX5_tryLever_7 : decode cX5_tryLever 7 = .ok (.aload_n 0, 1) := by decide +kernel
theorem dX5_tryLever_8 : decode cX5_tryLever 8 = .ok (.invokevirtual 86, 3) := by decide +kernel
theorem dX5_tryLever_11 : decode cX5_tryLever 11 = .ok (.ifCond .eq 5, 3) := by decide +kernel
theorem dX5_tryLever_14 : decode cX5_tryLever 14 = .ok (.iconst 0, 1) := by decide +kernel
theorem dX5_tryLever_15 : decode cX5_tryLever 15 = .ok (.ireturn, 1) := by decide +kernel
theorem dX5_tryLever_16 : decode cX5_tryLever 16 = .ok (.iconst 0, 1) := by decide +kernel
theorem dX5_tryLever_17 : decode cX5_tryLever 17 = .ok (.istore_n 1, 1) := by decide +kernel
theorem dX5_tryLever_18 : decode cX5_tryLever 18 = .ok (.iload_n 1, 1) := by decide +kernel
theorem dX5_tryLever_19 : decode cX5_tryLever 19 = .ok (.aload_n 0, 1) := by decide +kernel
theorem dX5_tryLever_20 : decode cX5_tryLever 20 = .ok (.getfield 12, 3) := by decide +kernel
theorem dX5_tryLever_23 : decode cX5_tryLever 23 = .ok (.getfield 29, 3) := by decide +kernel
theorem dX5_tryLever_26 : decode cX5_tryLever 26 = .ok (.if_icmp .ge 19, 3) := by decide +kernel
theorem dX5_tryLever_29 : decode cX5_tryLever 29 = .ok (.aload_n 0, 1) := by decide +kernel
theorem dX5_tryLever_30 : decode cX5_tryLever 30 = .ok (.iload_n 1, 1) := by decide +kernel
theorem dX5_tryLever_31 : decode cX5_tryLever 31 = .ok (.invokevirtual 90, 3) := by decide +kernel
theorem dX5_tryLever_34 : decode cX5_tryLever 34 = .ok (.ifCond .ne 5, 3) := by decide +kernel
theorem dX5_tryLever_37 : decode cX5_tryLever 37 = .ok (.iconst 2, 1) := by decide +kernel
theorem dX5_tryLever_38 : decode cX5_tryLever 38 = .ok (.ireturn, 1) := by decide +kernel
theorem dX5_tryLever_39 : decode cX5_tryLever 39 = .ok (.iinc 1 1, 3) := by decide +kernel
theorem dX5_tryLever_42 : decode cX5_tryLever 42 = .ok (.goto (-24), 3) := by decide +kernel
theorem dX5_tryLever_45 : decode cX5_tryLever 45 = .ok (.iconst 1, 1) := by decide +kernel
theorem dX5_tryLever_46 : decode cX5_tryLever 46 = .ok (.ireturn, 1) := by decide +kernel
theorem dX5_greatestHighBut_0 : decode cX5_greatestHighBut 0 = .ok (.iconst 0, 1) := by decide +kernel
theorem dX5_greatestHighBut_1 : decode cX5_greatestHighBut 1 = .ok (.istore_n 2, 1) := by decide +kernel
theorem dX5_greatestHighBut_2 : decode cX5_greatestHighBut 2 = .ok (.iconst 0, 1) := by decide +kernel
theorem dX5_greatestHighBut_3 : decode cX5_greatestHighBut 3 = .ok (.istore_n 3, 1) := by decide +kernel
theorem dX5_greatestHighBut_4 : decode cX5_greatestHighBut 4 = .ok (.iload_n 3, 1) := by decide +kernel
theorem dX5_greatestHighBut_5 : decode cX5_greatestHighBut 5 = .ok (.aload_n 0, 1) := by decide +kernel
theorem dX5_greatestHighBut_6 : decode cX5_greatestHighBut 6 = .ok (.getfield 12, 3) := by decide +kernel
theorem dX5_greatestHighBut_9 : decode cX5_greatestHighBut 9 = .ok (.getfield 29, 3) := by decide +kernel
theorem dX5_greatestHighBut_12 : decode cX5_greatestHighBut 12 = .ok (.if_icmp .ge 28, 3) := by decide +kernel
theorem dX5_greatestHighBut_15 : decode cX5_greatestHighBut 15 = .ok (.iload_n 3, 1) := by decide +kernel
theorem dX5_greatestHighBut_16 : decode cX5_greatestHighBut 16 = .ok (.iload_n 1, 1) := by decide +kernel
theorem dX5_greatestHighBut_17 : decode cX5_greatestHighBut 17 = .ok (.if_icmp .eq 17, 3) := by decide +kernel
theorem dX5_greatestHighBut_20 : decode cX5_greatestHighBut 20 = .ok (.iload_n 2, 1) := by decide +kernel
theorem dX5_greatestHighBut_21 : decode cX5_greatestHighBut 21 = .ok (.aload_n 0, 1) := by decide +kernel
theorem dX5_greatestHighBut_22 : decode cX5_greatestHighBut 22 = .ok (.getfield 20, 3) := by decide +kernel
theorem dX5_greatestHighBut_25 : decode cX5_greatestHighBut 25 = .ok (.iload_n 3, 1) := by decide +kernel
theorem dX5_greatestHighBut_26 : decode cX5_greatestHighBut 26 = .ok (.aaload, 1) := by decide +kernel
theorem dX5_greatestHighBut_27 : decode cX5_greatestHighBut 27 = .ok (.getfield 42, 3) := by decide +kernel
theorem dX5_greatestHighBut_30 : decode cX5_greatestHighBut 30 = .ok (.invokestatic 55, 3) := by decide +kernel
theorem dX5_greatestHighBut_33 : decode cX5_greatestHighBut 33 = .ok (.istore_n 2, 1) := by decide +kernel
theorem dX5_greatestHighBut_34 : decode cX5_greatestHighBut 34 = .ok (.iinc 3 1, 3) := by decide +kernel
theorem dX5_greatestHighBut_37 : decode cX5_greatestHighBut 37 = .ok (.goto (-33), 3) := by decide +kernel
theorem dX5_greatestHighBut_40 : decode cX5_greatestHighBut 40 = .ok (.iload_n 2, 1) := by decide +kernel
theorem dX5_greatestHighBut_41 : decode cX5_greatestHighBut 41 = .ok (.ireturn, 1) := by decide +kernel
theorem dX6_init_0 : decode cX6_init 0 = .ok (.aload_n 0, 1) := by decide +kernel
theorem dX6_init_1 : decode cX6_init 1 = .ok (.invokespecial 3, 3) := by decide +kernel
theorem dX6_init_4 : decode cX6_init 4 = .ok (.aload_n 0, 1) := by decide +kernel
theorem dX6_init_5 : decode cX6_init 5 = .ok (.new 9, 3) := by decide +kernel
theorem dX6_init_8 : decode cX6_init 8 = .ok (.dup, 1) := by decide +kernel
theorem dX6_init_9 : decode cX6_init 9 = .ok (.invokespecial 11, 3) := by decide +kernel
theorem dX6_init_12 : decode cX6_init 12 = .ok (.putfield 12, 3) := by decide +kernel
theorem dX6_init_15 : decode cX6_init 15 = .ok (.aload_n 0, 1) := by decide +kernel
theorem dX6_init_16 : decode cX6_init 16 = .ok (.iconst 4, 1) := by decide +kernel
theorem dX6_init_17 : decode cX6_init 17 = .ok (.bipush 100, 2) := by decide +kernel
theorem dX6_init_19 : decode cX6_init 19 = .ok (.multianewarray 18 2, 4) := by decide +kernel
theorem dX6_init_23 : decode cX6_init 23 = .ok (.putfield 20, 3) := by decide +kernel
theorem dX6_init_26 : decode cX6_init 26 = .ok (.aload_n 0, 1) := by decide +kernel
theorem dX6_init_27 : decode cX6_init 27 = .ok (.iconst 4, 1) := by decide +kernel
theorem dX6_init_28 : decode cX6_init 28 = .ok (.newarray .int, 2) := by decide +kernel
theorem dX6_init_30 : decode cX6_init 30 = .ok (.putfield 23, 3) := by decide +kernel
theorem dX6_init_33 : decode cX6_init 33 = .ok (.aload_n 0, 1) := by decide +kernel
theorem dX6_init_34 : decode cX6_init 34 = .ok (.iconst 4, 1) := by decide +kernel
theorem dX6_init_35 : decode cX6_init 35 = .ok (.newarray .int, 2) := by decide +kernel
theorem dX6_init_37 : decode cX6_init 37 = .ok (.putfield 27, 3) := by decide +kernel
theorem dX6_init_40 : decode cX6_init 40 = .ok (.aload_n 0, 1) := by decide +kernel
theorem dX6_init_41 : decode cX6_init 41 = .ok (.aload_n 1, 1) := by decide +kernel
theorem dX6_init_42 : decode cX6_init 42 = .ok (.putfield 30, 3) := by decide +kernel
theorem dX6_init_45 : decode cX6_init 45 = .ok (.aload_n 0, 1) := by decide +kernel
theorem dX6_init_46 : decode cX6_init 46 = .ok (.aload_n 2, 1) := by decide +kernel
theorem dX6_init_47 : decode cX6_init 47 = .ok (.putfield 34, 3) := by decide +kernel
theorem dX6_init_50 : decode cX6_init 50 = .ok (.return_, 1) := by decide +kernel
theorem dX6_gatherCovers_0 : decode cX6_gatherCovers 0 = .ok (.aload_n 0, 1) := by decide +kernel
theorem dX6_gatherCovers_1 : decode cX6_gatherCovers 1 = .ok (.iconst 1, 1) := by decide +kernel
theorem dX6_gatherCovers_2 : decode cX6_gatherCovers 2 = .ok (.putfield 38, 3) := by decide +kernel
theorem dX6_gatherCovers_5 : decode cX6_gatherCovers 5 = .ok (.iconst 0, 1) := by decide +kernel
theorem dX6_gatherCovers_6 : decode cX6_gatherCovers 6 = .ok (.istore_n 1, 1) := by decide +kernel
theorem dX6_gatherCovers_7 : decode cX6_gatherCovers 7 = .ok (.iload_n 1, 1) := by decide +kernel
theorem dX6_gatherCovers_8 : decode cX6_gatherCovers 8 = .ok (.aload_n 0, 1) := by decide +kernel
theorem dX6_gatherCovers_9 : decode cX6_gatherCovers 9 = .ok (.getfield 30, 3) := by decide +kernel
theorem dX6_gatherCovers_12 : decode cX6_gatherCovers 12 = .ok (.getfield 42, 3) := by decide +kernel
theorem dX6_gatherCovers_15 : decode cX6_gatherCovers 15 = .ok (.getfield 47, 3) := by decide +kernel
theorem dX6_gatherCovers_18 : decode cX6_gatherCovers 18 = .ok (.if_icmp .ge 81, 3) := by decide +kernel
theorem dX6_gatherCovers_21 : decode cX6_gatherCovers 21 = .ok (.aload_n 0, 1) := by decide +kernel
theorem dX6_gatherCovers_22 : decode cX6_gatherCovers 22 = .ok (.getfield 34, 3) := by decide +kernel
theorem dX6_gatherCovers_25 : decode cX6_gatherCovers 25 = .ok (.iload_n 1, 1) := by decide +kernel
theorem dX6_gatherCovers_26 : decode cX6_gatherCovers 26 = .ok (.invokevirtual 50, 3) := by decide +kernel
theorem dX6_gatherCovers_29 : decode cX6_gatherCovers 29 = .ok (.aload_n 0, 1) := by decide +kernel
theorem dX6_gatherCovers_30 : decode cX6_gatherCovers 30 = .ok (.getfield 23, 3) := by decide +kernel
theorem dX6_gatherCovers_33 : decode cX6_gatherCovers 33 = .ok (.iload_n 1, 1) := by decide +kernel
theorem dX6_gatherCovers_34 : decode cX6_gatherCovers 34 = .ok (.aload_n 0, 1) := by decide +kernel
theorem dX6_gatherCovers_35 : decode cX6_gatherCovers 35 = .ok (.getfield 34, 3) := by decide +kernel
theorem dX6_gatherCovers_38 : decode cX6_gatherCovers 38 = .ok (.getfield 56, 3) := by decide +kernel
theorem dX6_gatherCovers_41 : decode cX6_gatherCovers 41 = .ok (.iastore, 1) := by decide +kernel
theorem dX6_gatherCovers_42 : decode cX6_gatherCovers 42 = .ok (.iconst 0, 1) := by decide +kernel
theorem dX6_gatherCovers_43 : decode cX6_gatherCovers 43 = .ok (.istore_n 2, 1) := by decide +kernel
theorem dX6_gatherCovers_44 : decode cX6_gatherCovers 44 = .ok (.iload_n 2, 1) := by decide +kernel
theorem dX6_gatherCovers_45 : decode cX6_gatherCovers 45 = .ok (.aload_n 0, 1) := by decide +kernel
theorem dX6_gatherCovers_46 : decode cX6_gatherCovers 46 = .ok (.getfield 34, 3) := by decide +kernel
theorem dX6_gatherCovers_49 : decode cX6_gatherCovers 49 = .ok (.getfield 56, 3) := by decide +kernel
theorem dX6_gatherCovers_52 : decode cX6_gatherCovers 52 = .ok (.if_icmp .ge 26, 3) := by decide +kernel
theorem dX6_gatherCovers_55 : decode cX6_gatherCovers 55 = .ok (.aload_n 0, 1) := by decide +kernel
theorem dX6_gatherCovers_56 : decode cX6_gatherCovers 56 = .ok (.getfield 20, 3) := by decide +kernel
theorem dX6_gatherCovers_59 : decode cX6_gatherCovers 59 = .ok (.iload_n 1, 1) := by decide +kernel
theorem dX6_gatherCovers_60 : decode cX6_gatherCovers 60 = .ok (.aaload, 1) := by decide +kernel
theorem dX6_gatherCovers_61 : decode cX6_gatherCovers 61 = .ok (.iload_n 2, 1) := by decide +kernel
theorem dX6_gatherCovers_62 : decode cX6_gatherCovers 62 = .ok (.aload_n 0, 1) := by decide +kernel
theorem dX6_gatherCovers_63 : decode cX6_gatherCovers 63 = .ok (.getfield 34, 3) := by decide +kernel
theorem dX6_gatherCovers_66 : decode cX6_gatherCovers 66 = .ok (.getfield 59, 3) := by decide +kernel
theorem dX6_gatherCovers_69 : decode cX6_gatherCovers 69 = .ok (.iload_n 2, 1) := by decide +kernel
theorem dX6_gatherCovers_70 : decode cX6_gatherCovers 70 = .ok (.iaload, 1) := by decide +kernel
theorem dX6_gatherCovers_71 : decode cX6_gatherCovers 71 = .ok (.iastore, 1) := by decide +kernel
theorem dX6_gatherCovers_72 : decode cX6_gatherCovers 72 = .ok (.iinc 2 1, 3) := by decide +kernel
theorem dX6_gatherCovers_75 : decode cX6_gatherCovers 75 = .ok (.goto (-31), 3) := by decide +kernel
theorem dX6_gatherCovers_78 : decode cX6_gatherCovers 78 = .ok (.aload_n 0, 1) := by decide +kernel
theorem dX6_gatherCovers_79 : decode cX6_gatherCovers 79 = .ok (.dup, 1) := by decide +kernel
theorem dX6_gatherCovers_80 : decode cX6_gatherCovers 80 = .ok (.getfield 38, 3) := by decide +kernel
theorem dX6_gatherCovers_83 : decode cX6_gatherCovers 83 = .ok (.aload_n 0, 1) := by decide +kernel
theorem dX6_gatherCovers_84 : decode cX6_gatherCovers 84 = .ok (.getfield 23, 3) := by decide +kernel
theorem dX6_gatherCovers_87 : decode cX6_gatherCovers 87 = .ok (.iload_n 1, 1) := by decide +kernel
theorem dX6_gatherCovers_88 : decode cX6_gatherCovers 88 = .ok (.iaload, 1) := by decide +kernel
theorem dX6_gatherCovers_89 : decode cX6_gatherCovers 89 = .ok (.imul, 1) := by decide +kernel
theorem dX6_gatherCovers_90 : decode cX6_gatherCovers 90 = .ok (.putfield 38, 3) := by decide +kernel
theorem dX6_gatherCovers_93 : decode cX6_gatherCovers 93 = .ok (.iinc 1 1, 3) := by decide +kernel
theorem dX6_gatherCovers_96 : decode cX6_gatherCovers 96 = .ok (.goto (-89), 3) := by decide +kernel
theorem dX6_gatherCovers_99 : decode cX6_gatherCovers 99 = .ok (.aload_n 0, 1) := by decide +kernel
theorem dX6_gatherCovers_100 : decode cX6_gatherCovers 100 = .ok (.getfield 38, 3) := by decide +kernel
theorem dX6_gatherCovers_103 : decode cX6_gatherCovers 103 = .ok (.sipush 400, 3) := by decide +kernel
theorem dX6_gatherCovers_106 : decode cX6_gatherCovers 106 = .ok (.if_icmp .gt 7, 3) := by decide +kernel
theorem dX6_gatherCovers_109 : decode cX6_gatherCovers 109 = .ok (.iconst 1, 1) := by decide +kernel
theorem dX6_gatherCovers_110 : decode cX6_gatherCovers 110 = .ok (.goto 4, 3) := by decide +kernel
theorem dX6_gatherCovers_113 : decode cX6_gatherCovers 113 = .ok (.iconst 0, 1) := by decide +kernel
theorem dX6_gatherCovers_114 : decode cX6_gatherCovers 114 = .ok (.ireturn, 1) := by decide +kernel
theorem dX6_goThroughRows_0 : decode cX6_goThroughRows 0 = .ok (.aload_n 0, 1) := by decide +kernel
theorem dX6_goThroughRows_1 : decode cX6_goThroughRows 1 = .ok (.iload_n 1, 1) := by decide +kernel
theorem dX6_goThroughRows_2 : decode cX6_goThroughRows 2 = .ok (.putfield 62, 3) := by decide +kernel
theorem dX6_goThroughRows_5 : decode cX6_goThroughRows 5 = .ok (.aload_n 0, 1) := by decide +kernel
theorem dX6_goThroughRows_6 : decode cX6_goThroughRows 6 = .ok (.getfield 12, 3) := by decide +kernel
theorem dX6_goThroughRows_9 : decode cX6_goThroughRows 9 = .ok (.aload_n 0, 1) := by decide +kernel
theorem dX6_goThroughRows_10 : decode cX6_goThroughRows 10 = .ok (.getfield 30, 3) := by decide +kernel
theorem dX6_goThroughRows_13 : decode cX6_goThroughRows 13 = .ok (.getfield 42, 3) := by decide +kernel
theorem dX6_goThroughRows_16 : decode cX6_goThroughRows 16 = .ok (.invokevirtual 65, 3) := by decide +kernel
theorem dX6_goThroughRows_19 : decode cX6_goThroughRows 19 = .ok (.aload_n 0, 1) := by decide +kernel
theorem dX6_goThroughRows_20 : decode cX6_goThroughRows 20 = .ok (.getfield 12, 3) := by decide +kernel
theorem dX6_goThroughRows_23 : decode cX6_goThroughRows 23 = .ok (.invokevirtual 69, 3) := by decide +kernel
theorem dX6_goThroughRows_26 : decode cX6_goThroughRows 26 = .ok (.iconst 0, 1) := by decide +kernel
theorem dX6_goThroughRows_27 : decode cX6_goThroughRows 27 = .ok (.istore_n 2, 1) := by decide +kernel
theorem dX6_goThroughRows_28 : decode cX6_goThroughRows 28 = .ok (.iload_n 2, 1) := by decide +kernel
theorem dX6_goThroughRows_29 : decode cX6_goThroughRows 29 = .ok (.iconst 4, 1) := by decide +kernel
theorem dX6_goThroughRows_30 : decode cX6_goThroughRows 30 = .ok (.if_icmp .ge 16, 3) := by decide +kernel
theorem dX6_goThroughRows_33 : decode cX6_goThroughRows 33 = .ok (.aload_n 0, 1) := by decide +kernel
theorem dX6_goThroughRows_34 : decode cX6_goThroughRows 34 = .ok (.getfield 27, 3) := by decide +kernel
theorem dX6_goThroughRows_37 : decode cX6_goThroughRows 37 = .ok (.iload_n 2, 1) := by decide +kernel
theorem dX6_goThroughRows_38 : decode cX6_goThroughRows 38 = .ok (.iconst 0, 1) := by decide +kernel
theorem dX6_goThroughRows_39 : decode cX6_goThroughRows 39 = .ok (.iastore, 1) := by decide +kernel
theorem dX6_goThroughRows_40 : decode cX6_goThroughRows 40 = .ok (.iinc 2 1, 3) := by decide +kernel
theorem dX6_goThroughRows_43 : decode cX6_goThroughRows 43 = .ok (.goto (-15), 3) := by decide +kernel
theorem dX6_goThroughRows_46 : decode cX6_goThroughRows 46 = .ok (.aload_n 0, 1) := by decide +kernel
theorem dX6_goThroughRows_47 : decode cX6_goThroughRows 47 = .ok (.lconst 0, 1) := by decide +kernel
theorem dX6_goThroughRows_48 : decode cX6_goThroughRows 48 = .ok (.putfield 72, 3) := by decide +kernel
theorem dX6_goThroughRows_51 : decode cX6_goThroughRows 51 = .ok (.aload_n 0, 1) := by decide +kernel
theorem dX6_goThroughRows_52 : decode cX6_goThroughRows 52 = .ok (.iconst 0, 1) := by decide +kernel
theorem dX6_goThroughRows_53 : decode cX6_goThroughRows 53 = .ok (.putfield 76, 3) := by decide +kernel
theorem dX6_goThroughRows_56 : decode cX6_goThroughRows 56 = .ok (.aload_n 0, 1) := by decide +kernel
theorem dX6_goThroughRows_57 : decode cX6_goThroughRows 57 = .ok (.getfield 12, 3) := by decide +kernel
theorem dX6_goThroughRows_60 : decode cX6_goThroughRows 60 = .ok (.getfield 47, 3) := by decide +kernel
theorem dX6_goThroughRows_63 : decode cX6_goThroughRows 63 = .ok (.iconst 1, 1) := by decide +kernel
theorem dX6_goThroughRows_64 : decode cX6_goThroughRows 64 = .ok (.isub, 1) := by decide +kernel
theorem dX6_goThroughRows_65 : decode cX6_goThroughRows 65 = .ok (.istore_n 2, 1) := by decide +kernel
theorem dX6_goThroughRows_66 : decode cX6_goThroughRows 66 = .ok (.iconst 1, 1) := by decide +kernel
theorem dX6_goThroughRows_67 : decode cX6_goThroughRows 67 = .ok (.istore_n 3, 1) := by decide +kernel
theorem dX6_goThroughRows_68 : decode cX6_goThroughRows 68 = .ok (.iload_n 3, 1) := by decide +kernel
theorem dX6_goThroughRows_69 : decode cX6_goThroughRows 69 = .ok (.aload_n 0, 1) := by decide +kernel
theorem dX6_goThroughRows_70 : decode cX6_goThroughRows 70 = .ok (.getfield 38, 3) := by decide +kernel
theorem dX6_goThroughRows_73 : decode cX6_goThroughRows 73 = .ok (.if_icmp .gt 46, 3) := by decide +kernel
theorem dX6_goThroughRows_76 : decode cX6_goThroughRows 76 = .ok (.aload_n 0, 1) := by decide +kernel
theorem dX6_goThroughRows_77 : decode cX6_goThroughRows 77 = .ok (.iload_n 2, 1) := by decide +kernel
theorem dX6_goThroughRows_78 : decode cX6_goThroughRows 78 = .ok (.invokevirtual 79, 3) := by decide +kernel
theorem dX6_goThroughRows_81 : decode cX6_goThroughRows 81 = .ok (.aload_n 0, 1) := by decide +kernel
theorem dX6_goThroughRows_82 : decode cX6_goThroughRows 82 = .ok (.getfield 76, 3) := by decide +kernel
theorem dX6_goThroughRows_85 : decode cX6_goThroughRows 85 = .ok (.ifCond .ne 23, 3) := by decide +kernel
theorem dX6_goThroughRows_88 : decode cX6_goThroughRows 88 = .ok (.aload_n 0, 1) := by decide +kernel
theorem dX6_goThroughRows_89 : decode cX6_goThroughRows 89 = .ok (.invokevirtual 82, 3) := by decide +kernel
theorem dX6_goThroughRows_92 : decode cX6_goThroughRows 92 = .ok (.ifCond .eq 16, 3) := by decide +kernel
theorem dX6_goThroughRows_95 : decode cX6_goThroughRows 95 = .ok (.aload_n 0, 1) := by decide +kernel
theorem dX6_goThroughRows_96 : decode cX6_goThroughRows 96 = .ok (.iload_n 3, 1) := by decide +kernel
theorem dX6_goThroughRows_97 : decode cX6_goThroughRows 97 = .ok (.putfield 76, 3) := by decide +kernel
theorem dX6_goThroughRows_100 : decode cX6_goThroughRows 100 = .ok (.aload_n 0, 1) := by decide +kernel
theorem dX6_goThroughRows_101 : decode cX6_goThroughRows 101 = .ok (.aload_n 0, 1) := by decide +kernel
theorem dX6_goThroughRows_102 : decode cX6_goThroughRows 102 = .ok (.getfield 72, 3) := by decide +kernel
theorem dX6_goThroughRows_105 : decode cX6_goThroughRows 105 = .ok (.putfield 86, 3) := by decide +kernel
theorem dX6_goThroughRows_108 : decode cX6_goThroughRows 108 = .ok (.aload_n 0, 1) := by decide +kernel
theorem dX6_goThroughRows_109 : decode cX6_goThroughRows 109 = .ok (.invokevirtual 89, 3) := by decide +kernel
theorem dX6_goThroughRows_112 : decode cX6_goThroughRows 112 = .ok (.istore_n 2, 1) := by decide +kernel
theorem dX6_goThroughRows_113 : decode cX6_goThroughRows 113 = .ok (.iinc 3 1, 3) := by decide +kernel
theorem dX6_goThroughRows_116 : decode cX6_goThroughRows 116 = .ok (.goto (-48), 3) := by decide +kernel
theorem dX6_goThroughRows_119 : decode cX6_goThroughRows 119 = .ok (.aload_n 0, 1) := by decide +kernel
theorem dX6_goThroughRows_120 : decode cX6_goThroughRows 120 = .ok (.getfield 76, 3) := by decide +kernel
theorem dX6_goThroughRows_123 : decode cX6_goThroughRows 123 = .ok (.ifCond .ne 19, 3) := by decide +kernel
theorem dX6_goThroughRows_126 : decode cX6_goThroughRows 126 = .ok (.aload_n 0, 1) := by decide +kernel
theorem dX6_goThroughRows_127 : decode cX6_goThroughRows 127 = .ok (.aload_n 0, 1) := by decide +kernel
theorem dX6_goThroughRows_128 : decode cX6_goThroughRows 128 = .ok (.getfield 38, 3) := by decide +kernel
theorem dX6_goThroughRows_131 : decode cX6_goThroughRows 131 = .ok (.putfield 76, 3) := by decide +kernel
theorem dX6_goThroughRows_134 : decode cX6_goThroughRows 134 = .ok (.aload_n 0, 1) := by decide +kernel
theorem dX6_goThroughRows_135 : decode cX6_goThroughRows 135 = .ok (.aload_n 0, 1) := by decide +kernel
theorem dX6_goThroughRows_136 : decode cX6_goThroughRows 136 = .ok (.getfield 72, 3) := by decide +kernel
theorem dX6_goThroughRows_139 : decode cX6_goThroughRows 139 = .ok (.putfield 86, 3) := by decide +kernel
theorem dX6_goThroughRows_142 : decode cX6_goThroughRows 142 = .ok (.return_, 1) := by decide +kernel
theorem dX6_setWheelsFrom_0 : decode cX6_setWheelsFrom 0 = .ok (.iload_n 1, 1) := by decide +kernel
theorem dX6_setWheelsFrom_1 : decode cX6_setWheelsFrom 1 = .ok (.istore_n 2, 1) := by decide +kernel
theorem dX6_setWheelsFrom_2 : decode cX6_setWheelsFrom 2 = .ok (.iload_n 2, 1) := by decide +kernel
theorem dX6_setWheelsFrom_3 : decode cX6_setWheelsFrom 3 = .ok (.ifCond .lt 69, 3) := by decide +kernel
theorem dX6_setWheelsFrom_6 : decode cX6_setWheelsFrom 6 = .ok (.aload_n 0, 1) := by decide +kernel
theorem dX6_setWheelsFrom_7 : decode cX6_setWheelsFrom 7 = .ok (.getfield 12, 3) := by decide +kernel
theorem dX6_setWheelsFrom_10 : decode cX6_setWheelsFrom 10 = .ok (.getfield 47, 3) := by decide +kernel
theorem dX6_setWheelsFrom_13 : decode cX6_setWheelsFrom 13 = .ok (.iconst 1, 1) := by decide +kernel
theorem dX6_setWheelsFrom_14 : decode cX6_setWheelsFrom 14 = .ok (.isub, 1) := by decide +kernel
theorem dX6_setWheelsFrom_15 : decode cX6_setWheelsFrom 15 = .ok (.iload_n 2, 1) := by decide +kernel
theorem dX6_setWheelsFrom_16 : decode cX6_setWheelsFrom 16 = .ok (.isub, 1) := by decide +kernel
theorem dX6_setWheelsFrom_17 : decode cX6_setWheelsFrom 17 = .ok (.iconst 2, 1) := by decide +kernel
theorem dX6_setWheelsFrom_18 : decode cX6_setWheelsFrom 18 = .ok (.irem, 1) := by decide +kernel
theorem dX6_setWheelsFrom_19 : decode cX6_setWheelsFrom 19 = .ok (.ifCond .ne 7, 3) := by decide +kernel
theorem dX6_setWheelsFrom_22 : decode cX6_setWheelsFrom 22 = .ok (.iconst 1, 1) := by decide +kernel
theorem dX6_setWheelsFrom_23 : decode cX6_setWheelsFrom 23 = .ok (.goto 4, 3) := by decide +kernel
theorem dX6_setWheelsFrom_26 : decode cX6_setWheelsFrom 26 = .ok (.iconst 0, 1) := by decide +kernel
theorem dX6_setWheelsFrom_27 : decode cX6_setWheelsFrom 27 = .ok (.istore_n 3, 1) := by decide +kernel
theorem dX6_setWheelsFrom_28 : decode cX6_setWheelsFrom 28 = .ok (.aload_n 0, 1) := by decide +kernel
theorem dX6_setWheelsFrom_29 : decode cX6_setWheelsFrom 29 = .ok (.getfield 12, 3) := by decide +kernel
theorem dX6_setWheelsFrom_32 : decode cX6_setWheelsFrom 32 = .ok (.iload_n 2, 1) := by decide +kernel
theorem dX6_setWheelsFrom_33 : decode cX6_setWheelsFrom 33 = .ok (.aload_n 0, 1) := by decide +kernel
theorem dX6_setWheelsFrom_34 : decode cX6_setWheelsFrom 34 = .ok (.iload_n 2, 1) := by decide +kernel
theorem dX6_setWheelsFrom_35 : decode cX6_setWheelsFrom 35 = .ok (.invokevirtual 93, 3) := by decide +kernel
theorem dX6_setWheelsFrom_38 : decode cX6_setWheelsFrom 38 = .ok (.iload_n 3, 1) := by decide +kernel
theorem dX6_setWheelsFrom_39 : decode cX6_setWheelsFrom 39 = .ok (.invokevirtual 97, 3) := by decide +kernel
theorem dX6_setWheelsFrom_42 : decode cX6_setWheelsFrom 42 = .ok (.istore 4, 2) := by decide +kernel
theorem dX6_setWheelsFrom_44 : decode cX6_setWheelsFrom 44 = .ok (.aload_n 0, 1) := by decide +kernel
theorem dX6_setWheelsFrom_45 : decode cX6_setWheelsFrom 45 = .ok (.getfield 12, 3) := by decide +kernel
theorem dX6_setWheelsFrom_48 : decode cX6_setWheelsFrom 48 = .ok (.iload 4, 2) := by decide +kernel
theorem dX6_setWheelsFrom_50 : decode cX6_setWheelsFrom 50 = .ok (.iload_n 3, 1) := by decide +kernel
theorem dX6_setWheelsFrom_51 : decode cX6_setWheelsFrom 51 = .ok (.invokevirtual 101, 3) := by decide +kernel
theorem dX6_setWheelsFrom_54 : decode cX6_setWheelsFrom 54 = .ok (.aload_n 0, 1) := by decide +kernel
theorem dX6_setWheelsFrom_55 : decode cX6_setWheelsFrom 55 = .ok (.dup, 1) := by decide +kernel
theorem dX6_setWheelsFrom_56 : decode cX6_setWheelsFrom 56 = .ok (.getfield 72, 3) := by decide +kernel
theorem dX6_setWheelsFrom_59 : decode cX6_setWheelsFrom 59 = .ok (.iload 4, 2) := by decide +kernel
theorem dX6_setWheelsFrom_61 : decode cX6_setWheelsFrom 61 = .ok (.i2l, 1) := by decide +kernel
theorem dX6_setWheelsFrom_62 : decode cX6_setWheelsFrom 62 = .ok (.ladd, 1) := by decide +kernel
theorem dX6_setWheelsFrom_63 : decode cX6_setWheelsFrom 63 = .ok (.putfield 72, 3) := by decide +kernel
theorem dX6_setWheelsFrom_66 : decode cX6_setWheelsFrom 66 = .ok (.iinc 2 (-1), 3) := by decide +kernel
theorem dX6_setWheelsFrom_69 : decode cX6_setWheelsFrom 69 = .ok (.goto (-67), 3) := by decide +kernel
theorem dX6_setWheelsFrom_72 : decode cX6_setWheelsFrom 72 = .ok (.return_, 1) := by decide +kernel
theorem dX6_placeOf_0 : decode cX6_placeOf 0 = .ok (.aload_n 0, 1) := by decide +kernel
theorem dX6_placeOf_1 : decode cX6_placeOf 1 = .ok (.getfield 62, 3) := by decide +kernel
theorem dX6_placeOf_4 : decode cX6_placeOf 4 = .ok (.iload_n 1, 1) := by decide +kernel
theorem dX6_placeOf_5 : decode cX6_placeOf 5 = .ok (.ishr, 1) := by decide +kernel
theorem dX6_placeOf_6 : decode cX6_placeOf 6 = .ok (.iconst 1, 1) := by decide +kernel
theorem dX6_placeOf_7 : decode cX6_placeOf 7 = .ok (.iand, 1) := by decide +kernel
theorem dX6_placeOf_8 : decode cX6_placeOf 8 = .ok (.iconst 1, 1) := by decide +kernel
theorem dX6_placeOf_9 : decode cX6_placeOf 9 = .ok (.if_icmp .ne 7, 3) := by decide +kernel
theorem dX6_placeOf_12 : decode cX6_placeOf 12 = .ok (.iconst 1, 1) := by decide +kernel
theorem dX6_placeOf_13 : decode cX6_placeOf 13 = .ok (.goto 4, 3) := by decide +kernel
theorem dX6_placeOf_16 : decode cX6_placeOf 16 = .ok (.iconst 0, 1) := by decide +kernel
theorem dX6_placeOf_17 : decode cX6_placeOf 17 = .ok (.istore_n 2, 1) := by decide +kernel
theorem dX6_placeOf_18 : decode cX6_placeOf 18 = .ok (.iload_n 2, 1) := by decide +kernel
theorem dX6_placeOf_19 : decode cX6_placeOf 19 = .ok (.ifCond .eq 21, 3) := by decide +kernel
theorem dX6_placeOf_22 : decode cX6_placeOf 22 = .ok (.aload_n 0, 1) := by decide +kernel
theorem dX6_placeOf_23 : decode cX6_placeOf 23 = .ok (.getfield 23, 3) := by decide +kernel
theorem dX6_placeOf_26 : decode cX6_placeOf 26 = .ok (.iload_n 1, 1) := by decide +kernel
theorem dX6_placeOf_27 : decode cX6_placeOf 27 = .ok (.iaload, 1) := by decide +kernel
theorem dX6_placeOf_28 : decode cX6_placeOf 28 = .ok (.iconst 1, 1) := by decide +kernel
theorem dX6_placeOf_29 : decode cX6_placeOf 29 = .ok (.isub, 1) := by decide +kernel
theorem dX6_placeOf_30 : decode cX6_placeOf 30 = .ok (.aload_n 0, 1) := by decide +kernel
theorem dX6_placeOf_31 : decode cX6_placeOf 31 = .ok (.getfield 27, 3) := by decide +kernel
theorem dX6_placeOf_34 : decode cX6_placeOf 34 = .ok (.iload_n 1, 1) := by decide +kernel
theorem dX6_placeOf_35 : decode cX6_placeOf 35 = .ok (.iaload, 1) := by decide +kernel
theorem dX6_placeOf_36 : decode cX6_placeOf 36 = .ok (.isub, 1) := by decide +kernel
theorem dX6_placeOf_37 : decode cX6_placeOf 37 = .ok (.goto 9, 3) := by decide +kernel
theorem dX6_placeOf_40 : decode cX6_placeOf 40 = .ok (.aload_n 0, 1) := by decide +kernel
theorem dX6_placeOf_41 : decode cX6_placeOf 41 = .ok (.getfield 27, 3) := by decide +kernel
theorem dX6_placeOf_44 : decode cX6_placeOf 44 = .ok (.iload_n 1, 1) := by decide +kernel
theorem dX6_placeOf_45 : decode cX6_placeOf 45 = .ok (.iaload, 1) := by decide +kernel
theorem dX6_placeOf_46 : decode cX6_placeOf 46 = .ok (.istore_n 3, 1) := by decide +kernel
theorem dX6_placeOf_47 : decode cX6_placeOf 47 = .ok (.aload_n 0, 1) := by decide +kernel
theorem dX6_placeOf_48 : decode cX6_placeOf 48 = .ok (.getfield 20, 3) := by decide +kernel
theorem dX6_placeOf_51 : decode cX6_placeOf 51 = .ok (.iload_n 1, 1) := by decide +kernel
theorem dX6_placeOf_52 : decode cX6_placeOf 52 = .ok (.aaload, 1) := by decide +kernel
theorem dX6_placeOf_53 : decode cX6_placeOf 53 = .ok (.iload_n 3, 1) := by decide +kernel
theorem dX6_placeOf_54 : decode cX6_placeOf 54 = .ok (.iaload, 1) := by decide +kernel
theorem dX6_placeOf_55 : decode cX6_placeOf 55 = .ok (.ireturn, 1) := by decide +kernel
theorem dX6_isRight_0 : decode cX6_isRight 0 = .ok (.iconst 0, 1) := by decide +kernel
theorem dX6_isRight_1 : decode cX6_isRight 1 = .ok (.istore_n 1, 1) := by decide +kernel
theorem dX6_isRight_2 : decode cX6_isRight 2 = .ok (.iload_n 1, 1) := by decide +kernel
theorem dX6_isRight_3 : decode cX6_isRight 3 = .ok (.aload_n 0, 1) := by decide +kernel
theorem dX6_isRight_4 : decode cX6_isRight 4 = .ok (.getfield 12, 3) := by decide +kernel
theorem dX6_isRight_7 : decode cX6_isRight 7 = .ok (.getfield 47, 3) := by decide +kernel
theorem dX6_isRight_10 : decode cX6_isRight 10 = .ok (.if_icmp .ge 50, 3) := by decide +kernel
theorem dX6_isRight_13 : decode cX6_isRight 13 = .ok (.aload_n 0, 1) := by decide +kernel
theorem dX6_isRight_14 : decode cX6_isRight 14 = .ok (.getfield 12, 3) := by decide +kernel
theorem dX6_isRight_17 : decode cX6_isRight 17 = .ok (.aload_n 0, 1) := by decide +kernel
theorem dX6_isRight_18 : decode cX6_isRight 18 = .ok (.iload_n 1, 1) := by decide +kernel
theorem dX6_isRight_19 : decode cX6_isRight 19 = .ok (.invokevirtual 93, 3) := by decide +kernel
theorem dX6_isRight_22 : decode cX6_isRight 22 = .ok (.aload_n 0, 1) := by decide +kernel
theorem dX6_isRight_23 : decode cX6_isRight 23 = .ok (.getfield 30, 3) := by decide +kernel
theorem dX6_isRight_26 : decode cX6_isRight 26 = .ok (.getfield 105, 3) := by decide +kernel
theorem dX6_isRight_29 : decode cX6_isRight 29 = .ok (.iload_n 1, 1) := by decide +kernel
theorem dX6_isRight_30 : decode cX6_isRight 30 = .ok (.aaload, 1) := by decide +kernel
theorem dX6_isRight_31 : decode cX6_isRight 31 = .ok (.getfield 109, 3) := by decide +kernel
theorem dX6_isRight_34 : decode cX6_isRight 34 = .ok (.invokevirtual 114, 3) := by decide +kernel
theorem dX6_isRight_37 : decode cX6_isRight 37 = .ok (.aload_n 0, 1) := by decide +kernel
theorem dX6_isRight_38 : decode cX6_isRight 38 = .ok (.getfield 30, 3) := by decide +kernel
theorem dX6_isRight_41 : decode cX6_isRight 41 = .ok (.getfield 105, 3) := by decide +kernel
theorem dX6_isRight_44 : decode cX6_isRight 44 = .ok (.iload_n 1, 1) := by decide +kernel
theorem dX6_isRight_45 : decode cX6_isRight 45 = .ok (.aaload, 1) := by decide +kernel
theorem dX6_isRight_46 : decode cX6_isRight 46 = .ok (.getfield 118, 3) := by decide +kernel
theorem dX6_isRight_49 : decode cX6_isRight 49 = .ok (.if_icmp .le 5, 3) := by decide +kernel
theorem dX6_isRight_52 : decode cX6_isRight 52 = .ok (.iconst 0, 1) := by decide +kernel
theorem dX6_isRight_53 : decode cX6_isRight 53 = .ok (.ireturn, 1) := by decide +kernel
theorem dX6_isRight_54 : decode cX6_isRight 54 = .ok (.iinc 1 1, 3) := by decide +kernel
theorem dX6_isRight_57 : decode cX6_isRight 57 = .ok (.goto (-55), 3) := by decide +kernel
theorem dX6_isRight_60 : decode cX6_isRight 60 = .ok (.iconst 1, 1) := by decide +kernel
theorem dX6_isRight_61 : decode cX6_isRight 61 = .ok (.ireturn, 1) := by decide +kernel
theorem dX6_chooseNextRow_0 : decode cX6_chooseNextRow 0 = .ok (.iconst 0, 1) := by decide +kernel
theorem dX6_chooseNextRow_1 : decode cX6_chooseNextRow 1 = .ok (.istore_n 1, 1) := by decide +kernel
theorem dX6_chooseNextRow_2 : decode cX6_chooseNextRow 2 = .ok (.iload_n 1, 1) := by decide +kernel
theorem dX6_chooseNextRow_3 : decode cX6_chooseNextRow 3 = .ok (.aload_n 0, 1) := by decide +kernel
theorem dX6_chooseNextRow_4 : decode cX6_chooseNextRow 4 = .ok (.getfield 12, 3) := by decide +kernel
theorem dX6_chooseNextRow_7 : decode cX6_chooseNextRow 7 = .ok (.getfield 47, 3) := by decide +kernel
theorem dX6_chooseNextRow_10 : decode cX6_chooseNextRow 10 = .ok (.if_icmp .ge 43, 3) := by decide +kernel
theorem dX6_chooseNextRow_13 : decode cX6_chooseNextRow 13 = .ok (.aload_n 0, 1) := by decide +kernel
theorem dX6_chooseNextRow_14 : decode cX6_chooseNextRow 14 = .ok (.getfield 27, 3) := by decide +kernel
theorem dX6_chooseNextRow_17 : decode cX6_chooseNextRow 17 = .ok (.iload_n 1, 1) := by decide +kernel
theorem dX6_chooseNextRow_18 : decode cX6_chooseNextRow 18 = .ok (.dup2, 1) := by decide +kernel
theorem dX6_chooseNextRow_19 : decode cX6_chooseNextRow 19 = .ok (.iaload, 1) := by decide +kernel
theorem dX6_chooseNextRow_20 : decode cX6_chooseNextRow 20 = .ok (.iconst 1, 1) := by decide +kernel
theorem dX6_chooseNextRow_21 : decode cX6_chooseNextRow 21 = .ok (.iadd, 1) := by decide +kernel
theorem dX6_chooseNextRow_22 : decode cX6_chooseNextRow 22 = .ok (.iastore, 1) := by decide +kernel
theorem dX6_chooseNextRow_23 : decode cX6_chooseNextRow 23 = .ok (.aload_n 0, 1) := by decide +kernel
theorem dX6_chooseNextRow_24 : decode cX6_chooseNextRow 24 = .ok (.getfield 27, 3) := by decide +kernel
theorem dX6_chooseNextRow_27 : decode cX6_chooseNextRow 27 = .ok (.iload_n 1, 1) := by decide +kernel
theorem dX6_chooseNextRow_28 : decode cX6_chooseNextRow 28 = .ok (.iaload, 1) := by decide +kernel
theorem dX6_chooseNextRow_29 : decode cX6_chooseNextRow 29 = .ok (.aload_n 0, 1) := by decide +kernel
theorem dX6_chooseNextRow_30 : decode cX6_chooseNextRow 30 = .ok (.getfield 23, 3) := by decide +kernel
theorem dX6_chooseNextRow_33 : decode cX6_chooseNextRow 33 = .ok (.iload_n 1, 1) := by decide +kernel
theorem dX6_chooseNextRow_34 : decode cX6_chooseNextRow 34 = .ok (.iaload, 1) := by decide +kernel
theorem dX6_chooseNextRow_35 : decode cX6_chooseNextRow 35 = .ok (.if_icmp .ge 5, 3) := by decide +kernel
theorem dX6_chooseNextRow_38 : decode cX6_chooseNextRow 38 = .ok (.iload_n 1, 1) := by decide +kernel
theorem dX6_chooseNextRow_39 : decode cX6_chooseNextRow 39 = .ok (.ireturn, 1) := by decide +kernel
theorem dX6_chooseNextRow_40 : decode cX6_chooseNextRow 40 = .ok (.aload_n 0, 1) := by decide +kernel
theorem dX6_chooseNextRow_41 : decode cX6_chooseNextRow 41 = .ok (.getfield 27, 3) := by decide +kernel
theorem dX6_chooseNextRow_44 : decode cX6_chooseNextRow 44 = .ok (.iload_n 1, 1) := by decide +kernel
theorem dX6_chooseNextRow_45 : decode cX6_chooseNextRow 45 = .ok (.iconst 0, 1) := by decide +kernel
theorem dX6_chooseNextRow_46 : decode cX6_chooseNextRow 46 = .ok (.iastore, 1) := by decide +kernel
theorem dX6_chooseNextRow_47 : decode cX6_chooseNextRow 47 = .ok (.iinc 1 1, 3) := by decide +kernel
theorem dX6_chooseNextRow_50 : decode cX6_chooseNextRow 50 = .ok (.goto (-48), 3) := by decide +kernel
theorem dX6_chooseNextRow_53 : decode cX6_chooseNextRow 53 = .ok (.iconst (-1), 1) := by decide +kernel
theorem dX6_chooseNextRow_54 : decode cX6_chooseNextRow 54 = .ok (.ireturn, 1) := by decide +kernel
theorem dX6_chooseOrder_0 : decode cX6_chooseOrder 0 = .ok (.aload_n 0, 1) := by decide +kernel
theorem dX6_chooseOrder_1 : decode cX6_chooseOrder 1 = .ok (.iconst 0, 1) := by decide +kernel
theorem dX6_chooseOrder_2 : decode cX6_chooseOrder 2 = .ok (.putfield 121, 3) := by decide +kernel
theorem dX6_chooseOrder_5 : decode cX6_chooseOrder 5 = .ok (.aload_n 0, 1) := by decide +kernel
theorem dX6_chooseOrder_6 : decode cX6_chooseOrder 6 = .ok (.ldc2_w 126, 3) := by decide +kernel
theorem dX6_chooseOrder_9 : decode cX6_chooseOrder 9 = .ok (.putfield 128, 3) := by decide +kernel
theorem dX6_chooseOrder_12 : decode cX6_chooseOrder 12 = .ok (.iconst 0, 1) := by decide +kernel
theorem dX6_chooseOrder_13 : decode cX6_chooseOrder 13 = .ok (.istore_n 1, 1) := by decide +kernel
theorem dX6_chooseOrder_14 : decode cX6_chooseOrder 14 = .ok (.iload_n 1, 1) := by decide +kernel
theorem dX6_chooseOrder_15 : decode cX6_chooseOrder 15 = .ok (.iconst 1, 1) := by decide +kernel
theorem dX6_chooseOrder_16 : decode cX6_chooseOrder 16 = .ok (.aload_n 0, 1) := by decide +kernel
theorem dX6_chooseOrder_17 : decode cX6_chooseOrder 17 = .ok (.getfield 30, 3) := by decide +kernel
theorem dX6_chooseOrder_20 : decode cX6_chooseOrder 20 = .ok (.getfield 42, 3) := by decide +kernel
theorem dX6_chooseOrder_23 : decode cX6_chooseOrder 23 = .ok (.getfield 47, 3) := by decide +kernel
theorem dX6_chooseOrder_26 : decode cX6_chooseOrder 26 = .ok (.ishl, 1) := by decide +kernel
theorem dX6_chooseOrder_27 : decode cX6_chooseOrder 27 = .ok (.if_icmp .ge 39, 3) := by decide +kernel
theorem dX6_chooseOrder_30 : decode cX6_chooseOrder 30 = .ok (.aload_n 0, 1) := by decide +kernel
theorem dX6_chooseOrder_31 : decode cX6_chooseOrder 31 = .ok (.iload_n 1, 1) := by decide +kernel
theorem dX6_chooseOrder_32 : decode cX6_chooseOrder 32 = .ok (.invokevirtual 131, 3) := by decide +kernel
theorem dX6_chooseOrder_35 : decode cX6_chooseOrder 35 = .ok (.aload_n 0, 1) := by decide +kernel
theorem dX6_chooseOrder_36 : decode cX6_chooseOrder 36 = .ok (.getfield 72, 3) := by decide +kernel
theorem dX6_chooseOrder_39 : decode cX6_chooseOrder 39 = .ok (.aload_n 0, 1) := by decide +kernel
theorem dX6_chooseOrder_40 : decode cX6_chooseOrder 40 = .ok (.getfield 128, 3) := by decide +kernel
theorem dX6_chooseOrder_43 : decode cX6_chooseOrder 43 = .ok (.lcmp, 1) := by decide +kernel
theorem dX6_chooseOrder_44 : decode cX6_chooseOrder 44 = .ok (.ifCond .ge 16, 3) := by decide +kernel
theorem dX6_chooseOrder_47 : decode cX6_chooseOrder 47 = .ok (.aload_n 0, 1) := by decide +kernel
theorem dX6_chooseOrder_48 : decode cX6_chooseOrder 48 = .ok (.aload_n 0, 1) := by decide +kernel
theorem dX6_chooseOrder_49 : decode cX6_chooseOrder 49 = .ok (.getfield 72, 3) := by decide +kernel
theorem dX6_chooseOrder_52 : decode cX6_chooseOrder 52 = .ok (.putfield 128, 3) := by decide +kernel
theorem dX6_chooseOrder_55 : decode cX6_chooseOrder 55 = .ok (.aload_n 0, 1) := by decide +kernel
theorem dX6_chooseOrder_56 : decode cX6_chooseOrder 56 = .ok (.iload_n 1, 1) := by decide +kernel
theorem dX6_chooseOrder_57 : decode cX6_chooseOrder 57 = .ok (.putfield 121, 3) := by decide +kernel
theorem dX6_chooseOrder_60 : decode cX6_chooseOrder 60 = .ok (.iinc 1 1, 3) := by decide +kernel
theorem dX6_chooseOrder_63 : decode cX6_chooseOrder 63 = .ok (.goto (-49), 3) := by decide +kernel
theorem dX6_chooseOrder_66 : decode cX6_chooseOrder 66 = .ok (.return_, 1) := by decide +kernel
theorem dX7_init_0 : decode cX7_init 0 = .ok (.aload_n 0, 1) := by decide +kernel
theorem dX7_init_1 : decode cX7_init 1 = .ok (.invokespecial 3, 3) := by decide +kernel
theorem dX7_init_4 : decode cX7_init 4 = .ok (.aload_n 0, 1) := by decide +kernel
theorem dX7_init_5 : decode cX7_init 5 = .ok (.sipush 501, 3) := by decide +kernel
theorem dX7_init_8 : decode cX7_init 8 = .ok (.newarray .int, 2) := by decide +kernel
theorem dX7_init_10 : decode cX7_init 10 = .ok (.putfield 9, 3) := by decide +kernel
theorem dX7_init_13 : decode cX7_init 13 = .ok (.aload_n 0, 1) := by decide +kernel
theorem dX7_init_14 : decode cX7_init 14 = .ok (.sipush 501, 3) := by decide +kernel
theorem dX7_init_17 : decode cX7_init 17 = .ok (.newarray .int, 2) := by decide +kernel
theorem dX7_init_19 : decode cX7_init 19 = .ok (.putfield 15, 3) := by decide +kernel
theorem dX7_init_22 : decode cX7_init 22 = .ok (.aload_n 0, 1) := by decide +kernel
theorem dX7_init_23 : decode cX7_init 23 = .ok (.sipush 501, 3) := by decide +kernel
theorem dX7_init_26 : decode cX7_init 26 = .ok (.newarray .int, 2) := by decide +kernel
theorem dX7_init_28 : decode cX7_init 28 = .ok (.putfield 18, 3) := by decide +kernel
theorem dX7_init_31 : decode cX7_init 31 = .ok (.return_, 1) := by decide +kernel
theorem dX7_split_0 : decode cX7_split 0 = .ok (.iload_n 2, 1) := by decide +kernel
theorem dX7_split_1 : decode cX7_split 1 = .ok (.aload_n 1, 1) := by decide +kernel
theorem dX7_split_2 : decode cX7_split 2 = .ok (.arraylength, 1) := by decide +kernel
theorem dX7_split_3 : decode cX7_split 3 = .ok (.sipush 500, 3) := by decide +kernel
theorem dX7_split_6 : decode cX7_split 6 = .ok (.invokestatic 21, 3) := by decide +kernel
theorem dX7_split_9 : decode cX7_split 9 = .ok (.invokestatic 21, 3) := by decide +kernel
theorem dX7_split_12 : decode cX7_split 12 = .ok (.istore_n 3, 1) := by decide +kernel
theorem dX7_split_13 : decode cX7_split 13 = .ok (.aload_n 0, 1) := by decide +kernel
theorem dX7_split_14 : decode cX7_split 14 = .ok (.iconst 0, 1) := by decide +kernel
theorem dX7_split_15 : decode cX7_split 15 = .ok (.putfield 27, 3) := by decide +kernel
theorem dX7_split_18 : decode cX7_split 18 = .ok (.aload_n 0, 1) := by decide +kernel
theorem dX7_split_19 : decode cX7_split 19 = .ok (.iconst 0, 1) := by decide +kernel
theorem dX7_split_20 : decode cX7_split 20 = .ok (.putfield 31, 3) := by decide +kernel
theorem dX7_split_23 : decode cX7_split 23 = .ok (.iconst 0, 1) := by decide +kernel
theorem dX7_split_24 : decode cX7_split 24 = .ok (.istore 4, 2) := by decide +kernel
theorem dX7_split_26 : decode cX7_split 26 = .ok (.iload 4, 2) := by decide +kernel
theorem dX7_split_28 : decode cX7_split 28 = .ok (.iload_n 3, 1) := by decide +kernel
theorem dX7_split_29 : decode cX7_split 29 = .ok (.if_icmp .ge 68, 3) := by decide +kernel
theorem dX7_split_32 : decode cX7_split 32 = .ok (.aload_n 0, 1) := by decide +kernel
theorem dX7_split_33 : decode cX7_split 33 = .ok (.getfield 31, 3) := by decide +kernel
theorem dX7_split_36 : decode cX7_split 36 = .ok (.iload_n 3, 1) := by decide +kernel
theorem dX7_split_37 : decode cX7_split 37 = .ok (.if_icmp .ge 60, 3) := by decide +kernel
theorem dX7_split_40 : decode cX7_split 40 = .ok (.aload_n 1, 1) := by decide +kernel
theorem dX7_split_41 : decode cX7_split 41 = .ok (.aload_n 0, 1) := by decide +kernel
theorem dX7_split_42 : decode cX7_split 42 = .ok (.getfield 31, 3) := by decide +kernel
theorem dX7_split_45 : decode cX7_split 45 = .ok (.baload, 1) := by decide +kernel
theorem dX7_split_46 : decode cX7_split 46 = .ok (.bipush 32, 2) := by decide +kernel
theorem dX7_split_48 : decode cX7_split 48 = .ok (.if_icmp .eq 14, 3) := by decide +kernel
theorem dX7_split_51 : decode cX7_split 51 = .ok (.aload_n 1, 1) := by decide +kernel
theorem dX7_split_52 : decode cX7_split 52 = .ok (.aload_n 0, 1) := by decide +kernel
theorem dX7_split_53 : decode cX7_split 53 = .ok (.getfield 31, 3) := by decide +kernel
theorem dX7_split_56 : decode cX7_split 56 = .ok (.baload, 1) := by decide +kernel
theorem dX7_split_57 : decode cX7_split 57 = .ok (.bipush 10, 2) := by decide +kernel
theorem dX7_split_59 : decode cX7_split 59 = .ok (.if_icmp .ne 16, 3) := by decide +kernel
theorem dX7_split_62 : decode cX7_split 62 = .ok (.aload_n 0, 1) := by decide +kernel
theorem dX7_split_63 : decode cX7_split 63 = .ok (.dup, 1) := by decide +kernel
theorem dX7_split_64 : decode cX7_split 64 = .ok (.getfield 31, 3) := by decide +kernel
theorem dX7_split_67 : decode cX7_split 67 = .ok (.iconst 1, 1) := by decide +kernel
theorem dX7_split_68 : decode cX7_split 68 = .ok (.iadd, 1) := by decide +kernel
theorem dX7_split_69 : decode cX7_split 69 = .ok (.putfield 31, 3) := by decide +kernel
theorem dX7_split_72 : decode cX7_split 72 = .ok (.goto 19, 3) := by decide +kernel
theorem dX7_split_75 : decode cX7_split 75 = .ok (.aload_n 0, 1) := by decide +kernel
theorem dX7_split_76 : decode cX7_split 76 = .ok (.aload_n 1, 1) := by decide +kernel
theorem dX7_split_77 : decode cX7_split 77 = .ok (.iload_n 3, 1) := by decide +kernel
theorem dX7_split_78 : decode cX7_split 78 = .ok (.invokevirtual 34, 3) := by decide +kernel
theorem dX7_split_81 : decode cX7_split 81 = .ok (.aload_n 0, 1) := by decide +kernel
theorem dX7_split_82 : decode cX7_split 82 = .ok (.dup, 1) := by decide +kernel
theorem dX7_split_83 : decode cX7_split 83 = .ok (.getfield 27, 3) := by decide +kernel
theorem dX7_split_86 : decode cX7_split 86 = .ok (.iconst 1, 1) := by decide +kernel
theorem dX7_split_87 : decode cX7_split 87 = .ok (.iadd, 1) := by decide +kernel
theorem dX7_split_88 : decode cX7_split 88 = .ok (.putfield 27, 3) := by decide +kernel
theorem dX7_split_91 : decode cX7_split 91 = .ok (.iinc 4 1, 3) := by decide +kernel
theorem dX7_split_94 : decode cX7_split 94 = .ok (.goto (-68), 3) := by decide +kernel
theorem dX7_split_97 : decode cX7_split 97 = .ok (.aload_n 0, 1) := by decide +kernel
theorem dX7_split_98 : decode cX7_split 98 = .ok (.getfield 9, 3) := by decide +kernel
theorem dX7_split_101 : decode cX7_split 101 = .ok (.aload_n 0, 1) := by decide +kernel
theorem dX7_split_102 : decode cX7_split 102 = .ok (.getfield 27, 3) := by decide +kernel
theorem dX7_split_105 : decode cX7_split 105 = .ok (.iconst 0, 1) := by decide +kernel
theorem dX7_split_106 : decode cX7_split 106 = .ok (.iastore, 1) := by decide +kernel
theorem dX7_split_107 : decode cX7_split 107 = .ok (.aload_n 0, 1) := by decide +kernel
theorem dX7_split_108 : decode cX7_split 108 = .ok (.getfield 15, 3) := by decide +kernel
theorem dX7_split_111 : decode cX7_split 111 = .ok (.aload_n 0, 1) := by decide +kernel
theorem dX7_split_112 : decode cX7_split 112 = .ok (.getfield 27, 3) := by decide +kernel
theorem dX7_split_115 : decode cX7_split 115 = .ok (.iload_n 3, 1) := by decide +kernel
theorem dX7_split_116 : decode cX7_split 116 = .ok (.iastore, 1) := by decide +kernel
theorem dX7_split_117 : decode cX7_split 117 = .ok (.aload_n 0, 1) := by decide +kernel
theorem dX7_split_118 : decode cX7_split 118 = .ok (.dup, 1) := by decide +kernel
theorem dX7_split_119 : decode cX7_split 119 = .ok (.getfield 27, 3) := by decide +kernel
theorem dX7_split_122 : decode cX7_split 122 = .ok (.iconst 1, 1) := by decide +kernel
theorem dX7_split_123 : decode cX7_split 123 = .ok (.iadd, 1) := by decide +kernel
theorem dX7_split_124 : decode cX7_split 124 = .ok (.putfield 27, 3) := by decide +kernel
theorem dX7_split_127 : decode cX7_split 127 = .ok (.return_, 1) := by decide +kernel
theorem dX7_takeToken_0 : decode cX7_takeToken 0 = .ok (.aload_n 0, 1) := by decide +kernel
theorem dX7_takeToken_1 : decode cX7_takeToken 1 = .ok (.getfield 15, 3) := by decide +kernel
theorem dX7_takeToken_4 : decode cX7_takeToken 4 = .ok (.aload_n 0, 1) := by decide +kernel
theorem dX7_takeToken_5 : decode cX7_takeToken 5 = .ok (.getfield 27, 3) := by decide +kernel
theorem dX7_takeToken_8 : decode cX7_takeToken 8 = .ok (.aload_n 0, 1) := by decide +kernel
theorem dX7_takeToken_9 : decode cX7_takeToken 9 = .ok (.getfield 31, 3) := by decide +kernel
theorem dX7_takeToken_12 : decode cX7_takeToken 12 = .ok (.iastore, 1) := by decide +kernel
theorem dX7_takeToken_13 : decode cX7_takeToken 13 = .ok (.aload_n 1, 1) := by decide +kernel
theorem dX7_takeToken_14 : decode cX7_takeToken 14 = .ok (.aload_n 0, 1) := by decide +kernel
theorem dX7_takeToken_15 : decode cX7_takeToken 15 = .ok (.getfield 31, 3) := by decide +kernel
theorem dX7_takeToken_18 : decode cX7_takeToken 18 = .ok (.baload, 1) := by decide +kernel
theorem dX7_takeToken_19 : decode cX7_takeToken 19 = .ok (.invokestatic 38, 3) := by decide +kernel
theorem dX7_takeToken_22 : decode cX7_takeToken 22 = .ok (.ifCond .eq 12, 3) := by decide +kernel
theorem dX7_takeToken_25 : decode cX7_takeToken 25 = .ok (.aload_n 0, 1) := by decide +kernel
theorem dX7_takeToken_26 : decode cX7_takeToken 26 = .ok (.aload_n 1, 1) := by decide +kernel
theorem dX7_takeToken_27 : decode cX7_takeToken 27 = .ok (.iload_n 2, 1) := by decide +kernel
theorem dX7_takeToken_28 : decode cX7_takeToken 28 = .ok (.invokevirtual 42, 3) := by decide +kernel
theorem dX7_takeToken_31 : decode cX7_takeToken 31 = .ok (.goto 97, 3) := by decide +kernel
theorem dX7_takeToken_34 : decode cX7_takeToken 34 = .ok (.aload_n 1, 1) := by decide +kernel
theorem dX7_takeToken_35 : decode cX7_takeToken 35 = .ok (.aload_n 0, 1) := by decide +kernel
theorem dX7_takeToken_36 : decode cX7_takeToken 36 = .ok (.getfield 31, 3) := by decide +kernel
theorem dX7_takeToken_39 : decode cX7_takeToken 39 = .ok (.baload, 1) := by decide +kernel
theorem dX7_takeToken_40 : decode cX7_takeToken 40 = .ok (.invokestatic 45, 3) := by decide +kernel
theorem dX7_takeToken_43 : decode cX7_takeToken 43 = .ok (.ifCond .eq 12, 3) := by decide +kernel
theorem dX7_takeToken_46 : decode cX7_takeToken 46 = .ok (.aload_n 0, 1) := by decide +kernel
theorem dX7_takeToken_47 : decode cX7_takeToken 47 = .ok (.aload_n 1, 1) := by decide +kernel
theorem dX7_takeToken_48 : decode cX7_takeToken 48 = .ok (.iload_n 2, 1) := by decide +kernel
theorem dX7_takeToken_49 : decode cX7_takeToken 49 = .ok (.invokevirtual 48, 3) := by decide +kernel
theorem dX7_takeToken_52 : decode cX7_takeToken 52 = .ok (.goto 76, 3) := by decide +kernel
theorem dX7_takeToken_55 : decode cX7_takeToken 55 = .ok (.aload_n 1, 1) := by decide +kernel
theorem dX7_takeToken_56 : decode cX7_takeToken 56 = .ok (.aload_n 0, 1) := by decide +kernel
theorem dX7_takeToken_57 : decode cX7_takeToken 57 = .ok (.getfield 31, 3) := by decide +kernel
theorem dX7_takeToken_60 : decode cX7_takeToken 60 = .ok (.baload, 1) := by decide +kernel
theorem dX7_takeToken_61 : decode cX7_takeToken 61 = .ok (.istore_n 3, 1) := by decide +kernel
theorem dX7_takeToken_62 : decode cX7_takeToken 62 = .ok (.iload_n 3, 1) := by decide +kernel
theorem dX7_takeToken_63 : decode cX7_takeToken 63 = .ok (.bipush 59, 2) := by decide +kernel
theorem dX7_takeToken_65 : decode cX7_takeToken 65 = .ok (.if_icmp .eq 27, 3) := by decide +kernel
theorem dX7_takeToken_68 : decode cX7_takeToken 68 = .ok (.iload_n 3, 1) := by decide +kernel
theorem dX7_takeToken_69 : decode cX7_takeToken 69 = .ok (.bipush 40, 2) := by decide +kernel
theorem dX7_takeToken_71 : decode cX7_takeToken 71 = .ok (.if_icmp .eq 21, 3) := by decide +kernel
theorem dX7_takeToken_74 : decode cX7_takeToken 74 = .ok (.iload_n 3, 1) := by decide +kernel
theorem dX7_takeToken_75 : decode cX7_takeToken 75 = .ok (.bipush 41, 2) := by decide +kernel
theorem dX7_takeToken_77 : decode cX7_takeToken 77 = .ok (.if_icmp .eq 15, 3) := by decide +kernel
theorem dX7_takeToken_80 : decode cX7_takeToken 80 = .ok (.iload_n 3, 1) := by decide +kernel
theorem dX7_takeToken_81 : decode cX7_takeToken 81 = .ok (.bipush 43, 2) := by decide +kernel
theorem dX7_takeToken_83 : decode cX7_takeToken 83 = .ok (.if_icmp .eq 9, 3) := by decide +kernel
theorem dX7_takeToken_86 : decode cX7_takeToken 86 = .ok (.iload_n 3, 1) := by decide +kernel
theorem dX7_takeToken_87 : decode cX7_takeToken 87 = .ok (.bipush 45, 2) := by decide +kernel
theorem dX7_takeToken_89 : decode cX7_takeToken 89 = .ok (.if_icmp .ne 7, 3) := by decide +kernel
theorem dX7_takeToken_92 : decode cX7_takeToken 92 = .ok (.iconst 1, 1) := by decide +kernel
theorem dX7_takeToken_93 : decode cX7_takeToken 93 = .ok (.goto 4, 3) := by decide +kernel
theorem dX7_takeToken_96 : decode cX7_takeToken 96 = .ok (.iconst 0, 1) := by decide +kernel
theorem dX7_takeToken_97 : decode cX7_takeToken 97 = .ok (.istore 4, 2) := by decide +kernel
theorem dX7_takeToken_99 : decode cX7_takeToken 99 = .ok (.aload_n 0, 1) := by decide +kernel
theorem dX7_takeToken_100 : decode cX7_takeToken 100 = .ok (.getfield 9, 3) := by decide +kernel
theorem dX7_takeToken_103 : decode cX7_takeToken 103 = .ok (.aload_n 0, 1) := by decide +kernel
theorem dX7_takeToken_104 : decode cX7_takeToken 104 = .ok (.getfield 27, 3) := by decide +kernel
theorem dX7_takeToken_107 : decode cX7_takeToken 107 = .ok (.iload 4, 2) := by decide +kernel
theorem dX7_takeToken_109 : decode cX7_takeToken 109 = .ok (.ifCond .eq 7, 3) := by decide +kernel
theorem dX7_takeToken_112 : decode cX7_takeToken 112 = .ok (.iload_n 3, 1) := by decide +kernel
theorem dX7_takeToken_113 : decode cX7_takeToken 113 = .ok (.goto 4, 3) := by decide +kernel
theorem dX7_takeToken_116 : decode cX7_takeToken 116 = .ok (.iconst 1, 1) := by decide +kernel
theorem dX7_takeToken_117 : decode cX7_takeToken 117 = .ok (.iastore, 1) := by decide +kernel
theorem dX7_takeToken_118 : decode cX7_takeToken 118 = .ok (.aload_n 0, 1) := by decide +kernel
theorem dX7_takeToken_119 : decode cX7_takeToken 119 = .ok (.dup, 1) := by decide +kernel
theorem dX7_takeToken_120 : decode cX7_takeToken 120 = .ok (.getfield 31, 3) := by decide +kernel
theorem dX7_takeToken_123 : decode cX7_takeToken 123 = .ok (.iconst 1, 1) := by decide +kernel
theorem dX7_takeToken_124 : decode cX7_takeToken 124 = .ok (.iadd, 1) := by decide +kernel
theorem dX7_takeToken_125 : decode cX7_takeToken 125 = .ok (.putfield 31, 3) := by decide +kernel
theorem dX7_takeToken_128 : decode cX7_takeToken 128 = .ok (.return_, 1) := by decide +kernel
theorem dX7_takeNumber_0 : decode cX7_takeNumber 0 = .ok (.iconst 0, 1) := by decide +kernel
theorem dX7_takeNumber_1 : decode cX7_takeNumber 1 = .ok (.istore_n 3, 1) := by decide +kernel
theorem dX7_takeNumber_2 : decode cX7_takeNumber 2 = .ok (.aload_n 0, 1) := by decide +kernel
theorem dX7_takeNumber_3 : decode cX7_takeNumber 3 = .ok (.getfield 31, 3) := by decide +kernel
theorem dX7_takeNumber_6 : decode cX7_takeNumber 6 = .ok (.iload_n 2, 1) := by decide +kernel
theorem dX7_takeNumber_7 : decode cX7_takeNumber 7 = .ok (.if_icmp .ge 49, 3) := by decide +kernel
theorem dX7_takeNumber_10 : decode cX7_takeNumber 10 = .ok (.aload_n 1, 1) := by decide +kernel
theorem dX7_takeNumber_11 : decode cX7_takeNumber 11 = .ok (.aload_n 0, 1) := by decide +kernel
theorem dX7_takeNumber_12 : decode cX7_takeNumber 12 = .ok (.getfield 31, 3) := by decide +kernel
theorem dX7_takeNumber_15 : decode cX7_takeNumber 15 = .ok (.baload, 1) := by decide +kernel
theorem dX7_takeNumber_16 : decode cX7_takeNumber 16 = .ok (.invokestatic 45, 3) := by decide +kernel
theorem dX7_takeNumber_19 : decode cX7_takeNumber 19 = .ok (.ifCond .eq 37, 3) := by decide +kernel
theorem dX7_takeNumber_22 : decode cX7_takeNumber 22 = .ok (.iload_n 3, 1) := by decide +kernel
theorem dX7_takeNumber_23 : decode cX7_takeNumber 23 = .ok (.bipush 10, 2) := by decide +kernel
theorem dX7_takeNumber_25 : decode cX7_takeNumber 25 = .ok (.imul, 1) := by decide +kernel
theorem dX7_takeNumber_26 : decode cX7_takeNumber 26 = .ok (.aload_n 1, 1) := by decide +kernel
theorem dX7_takeNumber_27 : decode cX7_takeNumber 27 = .ok (.aload_n 0, 1) := by decide +kernel
theorem dX7_takeNumber_28 : decode cX7_takeNumber 28 = .ok (.getfield 31, 3) := by decide +kernel
theorem dX7_takeNumber_31 : decode cX7_takeNumber 31 = .ok (.baload, 1) := by decide +kernel
theorem dX7_takeNumber_32 : decode cX7_takeNumber 32 = .ok (.iadd, 1) := by decide +kernel
theorem dX7_takeNumber_33 : decode cX7_takeNumber 33 = .ok (.bipush 48, 2) := by decide +kernel
theorem dX7_takeNumber_35 : decode cX7_takeNumber 35 = .ok (.isub, 1) := by decide +kernel
theorem dX7_takeNumber_36 : decode cX7_takeNumber 36 = .ok (.sipush 1000, 3) := by decide +kernel
theorem dX7_takeNumber_39 : decode cX7_takeNumber 39 = .ok (.invokestatic 21, 3) := by decide +kernel
theorem dX7_takeNumber_42 : decode cX7_takeNumber 42 = .ok (.istore_n 3, 1) := by decide +kernel
theorem dX7_takeNumber_43 : decode cX7_takeNumber 43 = .ok (.aload_n 0, 1) := by decide +kernel
theorem dX7_takeNumber_44 : decode cX7_takeNumber 44 = .ok (.dup, 1) := by decide +kernel
theorem dX7_takeNumber_45 : decode cX7_takeNumber 45 = .ok (.getfield 31, 3) := by decide +kernel
theorem dX7_takeNumber_48 : decode cX7_takeNumber 48 = .ok (.iconst 1, 1) := by decide +kernel
theorem dX7_takeNumber_49 : decode cX7_takeNumber 49 = .ok (.iadd, 1) := by decide +kernel
theorem dX7_takeNumber_50 : decode cX7_takeNumber 50 = .ok (.putfield 31, 3) := by decide +kernel
theorem dX7_takeNumber_53 : decode cX7_takeNumber 53 = .ok (.goto (-51), 3) := by decide +kernel
theorem dX7_takeNumber_56 : decode cX7_takeNumber 56 = .ok (.aload_n 0, 1) := by decide +kernel
theorem dX7_takeNumber_57 : decode cX7_takeNumber 57 = .ok (.getfield 9, 3) := by decide +kernel
theorem dX7_takeNumber_60 : decode cX7_takeNumber 60 = .ok (.aload_n 0, 1) := by decide +kernel
theorem dX7_takeNumber_61 : decode cX7_takeNumber 61 = .ok (.getfield 27, 3) := by decide +kernel
theorem dX7_takeNumber_64 : decode cX7_takeNumber 64 = .ok (.iconst 2, 1) := by decide +kernel
theorem dX7_takeNumber_65 : decode cX7_takeNumber 65 = .ok (.iastore, 1) := by decide +kernel
theorem dX7_takeNumber_66 : decode cX7_takeNumber 66 = .ok (.aload_n 0, 1) := by decide +kernel
theorem dX7_takeNumber_67 : decode cX7_takeNumber 67 = .ok (.getfield 18, 3) := by decide +kernel
theorem dX7_takeNumber_70 : decode cX7_takeNumber 70 = .ok (.aload_n 0, 1) := by decide +kernel
theorem dX7_takeNumber_71 : decode cX7_takeNumber 71 = .ok (.getfield 27, 3) := by decide +kernel
theorem dX7_takeNumber_74 : decode cX7_takeNumber 74 = .ok (.iload_n 3, 1) := by decide +kernel
theorem dX7_takeNumber_75 : decode cX7_takeNumber 75 = .ok (.iastore, 1) := by decide +kernel
theorem dX7_takeNumber_76 : decode cX7_takeNumber 76 = .ok (.return_, 1) := by decide +kernel
theorem dX7_takeWord_0 : decode cX7_takeWord 0 = .ok (.aload_n 0, 1) := by decide +kernel
theorem dX7_takeWord_1 : decode cX7_takeWord 1 = .ok (.getfield 31, 3) := by decide +kernel
theorem dX7_takeWord_4 : decode cX7_takeWord 4 = .ok (.istore_n 3, 1) := by decide +kernel
theorem dX7_takeWord_5 : decode cX7_takeWord 5 = .ok (.aload_n 0, 1) := by decide +kernel
theorem dX7_takeWord_6 : decode cX7_takeWord 6 = .ok (.getfield 31, 3) := by decide +kernel
theorem dX7_takeWord_9 : decode cX7_takeWord 9 = .ok (.iload_n 2, 1) := by decide +kernel
theorem dX7_takeWord_10 : decode cX7_takeWord 10 = .ok (.if_icmp .ge 28, 3) := by decide +kernel
theorem dX7_takeWord_13 : decode cX7_takeWord 13 = .ok (.aload_n 1, 1) := by decide +kernel
theorem dX7_takeWord_14 : decode cX7_takeWord 14 = .ok (.aload_n 0, 1) := by decide +kernel
theorem dX7_takeWord_15 : decode cX7_takeWord 15 = .ok (.getfield 31, 3) := by decide +kernel
theorem dX7_takeWord_18 : decode cX7_takeWord 18 = .ok (.baload, 1) := by decide +kernel
theorem dX7_takeWord_19 : decode cX7_takeWord 19 = .ok (.invokestatic 38, 3) := by decide +kernel
theorem dX7_takeWord_22 : decode cX7_takeWord 22 = .ok (.ifCond .eq 16, 3) := by decide +kernel
theorem dX7_takeWord_25 : decode cX7_takeWord 25 = .ok (.aload_n 0, 1) := by decide +kernel
theorem dX7_takeWord_26 : decode cX7_takeWord 26 = .ok (.dup, 1) := by decide +kernel
theorem dX7_takeWord_27 : decode cX7_takeWord 27 = .ok (.getfield 31, 3) := by decide +kernel
theorem dX7_takeWord_30 : decode cX7_takeWord 30 = .ok (.iconst 1, 1) := by decide +kernel
theorem dX7_takeWord_31 : decode cX7_takeWord 31 = .ok (.iadd, 1) := by decide +kernel
theorem dX7_takeWord_32 : decode cX7_takeWord 32 = .ok (.putfield 31, 3) := by decide +kernel
theorem dX7_takeWord_35 : decode cX7_takeWord 35 = .ok (.goto (-30), 3) := by decide +kernel
theorem dX7_takeWord_38 : decode cX7_takeWord 38 = .ok (.aload_n 1, 1) := by decide +kernel
theorem dX7_takeWord_39 : decode cX7_takeWord 39 = .ok (.iload_n 3, 1) := by decide +kernel
theorem dX7_takeWord_40 : decode cX7_takeWord 40 = .ok (.baload, 1) := by decide +kernel
theorem dX7_takeWord_41 : decode cX7_takeWord 41 = .ok (.bipush 97, 2) := by decide +kernel
theorem dX7_takeWord_43 : decode cX7_takeWord 43 = .ok (.isub, 1) := by decide +kernel
theorem dX7_takeWord_44 : decode cX7_takeWord 44 = .ok (.istore 4, 2) := by decide +kernel
theorem dX7_takeWord_46 : decode cX7_takeWord 46 = .ok (.aload_n 0, 1) := by decide +kernel
theorem dX7_takeWord_47 : decode cX7_takeWord 47 = .ok (.getfield 31, 3) := by decide +kernel
theorem dX7_takeWord_50 : decode cX7_takeWord 50 = .ok (.iload_n 3, 1) := by decide +kernel
theorem dX7_takeWord_51 : decode cX7_takeWord 51 = .ok (.isub, 1) := by decide +kernel
theorem dX7_takeWord_52 : decode cX7_takeWord 52 = .ok (.iconst 1, 1) := by decide +kernel
theorem dX7_takeWord_53 : decode cX7_takeWord 53 = .ok (.if_icmp .ne 34, 3) := by decide +kernel
theorem dX7_takeWord_56 : decode cX7_takeWord 56 = .ok (.iload 4, 2) := by decide +kernel
theorem dX7_takeWord_58 : decode cX7_takeWord 58 = .ok (.bipush 8, 2) := by decide +kernel
theorem dX7_takeWord_60 : decode cX7_takeWord 60 = .ok (.if_icmp .ge 27, 3) := by decide +kernel
theorem dX7_takeWord_63 : decode cX7_takeWord 63 = .ok (.aload_n 0, 1) := by decide +kernel
theorem dX7_takeWord_64 : decode cX7_takeWord 64 = .ok (.getfield 9, 3) := by decide +kernel
theorem dX7_takeWord_67 : decode cX7_takeWord 67 = .ok (.aload_n 0, 1) := by decide +kernel
theorem dX7_takeWord_68 : decode cX7_takeWord 68 = .ok (.getfield 27, 3) := by decide +kernel
theorem dX7_takeWord_71 : decode cX7_takeWord 71 = .ok (.iconst 3, 1) := by decide +kernel
theorem dX7_takeWord_72 : decode cX7_takeWord 72 = .ok (.iastore, 1) := by decide +kernel
theorem dX7_takeWord_73 : decode cX7_takeWord 73 = .ok (.aload_n 0, 1) := by decide +kernel
theorem dX7_takeWord_74 : decode cX7_takeWord 74 = .ok (.getfield 18, 3) := by decide +kernel
theorem dX7_takeWord_77 : decode cX7_takeWord 77 = .ok (.aload_n 0, 1) := by decide +kernel
theorem dX7_takeWord_78 : decode cX7_takeWord 78 = .ok (.getfield 27, 3) := by decide +kernel
theorem dX7_takeWord_81 : decode cX7_takeWord 81 = .ok (.iload 4, 2) := by decide +kernel
theorem dX7_takeWord_83 : decode cX7_takeWord 83 = .ok (.iastore, 1) := by decide +kernel
theorem dX7_takeWord_84 : decode cX7_takeWord 84 = .ok (.goto 18, 3) := by decide +kernel
theorem dX7_takeWord_87 : decode cX7_takeWord 87 = .ok (.aload_n 0, 1) := by decide +kernel
theorem dX7_takeWord_88 : decode cX7_takeWord 88 = .ok (.getfield 9, 3) := by decide +kernel
theorem dX7_takeWord_91 : decode cX7_takeWord 91 = .ok (.aload_n 0, 1) := by decide +kernel
theorem dX7_takeWord_92 : decode cX7_takeWord 92 = .ok (.getfield 27, 3) := by decide +kernel
theorem dX7_takeWord_95 : decode cX7_takeWord 95 = .ok (.aload_n 0, 1) := by decide +kernel
theorem dX7_takeWord_96 : decode cX7_takeWord 96 = .ok (.aload_n 1, 1) := by decide +kernel
theorem dX7_takeWord_97 : decode cX7_takeWord 97 = .ok (.iload_n 3, 1) := by decide +kernel
theorem dX7_takeWord_98 : decode cX7_takeWord 98 = .ok (.invokevirtual 51, 3) := by decide +kernel
theorem dX7_takeWord_101 : decode cX7_takeWord 101 = .ok (.iastore, 1) := by decide +kernel
theorem dX7_takeWord_102 : decode cX7_takeWord 102 = .ok (.return_, 1) := by decide +kernel
theorem dX7_kindOfWord_0 : decode cX7_kindOfWord 0 = .ok (.aload_n 0, 1) := by decide +kernel
theorem dX7_kindOfWord_1 : decode cX7_kindOfWord 1 = .ok (.ldc 55, 2) := by decide +kernel
theorem dX7_kindOfWord_3 : decode cX7_kindOfWord 3 = .ok (.aload_n 1, 1) := by decide +kernel
theorem dX7_kindOfWord_4 : decode cX7_kindOfWord 4 = .ok (.iload_n 2, 1) := by decide +kernel
theorem dX7_kindOfWord_5 : decode cX7_kindOfWord 5 = .ok (.invokevirtual 57, 3) := by decide +kernel
theorem dX7_kindOfWord_8 : decode cX7_kindOfWord 8 = .ok (.ifCond .eq 5, 3) := by decide +kernel
theorem dX7_kindOfWord_11 : decode cX7_kindOfWord 11 = .ok (.iconst 4, 1) := by decide +kernel
theorem dX7_kindOfWord_12 : decode cX7_kindOfWord 12 = .ok (.ireturn, 1) := by decide +kernel
theorem dX7_kindOfWord_13 : decode cX7_kindOfWord 13 = .ok (.aload_n 0, 1) := by decide +kernel
theorem dX7_kindOfWord_14 : decode cX7_kindOfWord 14 = .ok (.ldc 61, 2) := by decide +kernel
theorem dX7_kindOfWord_16 : decode cX7_kindOfWord 16 = .ok (.aload_n 1, 1) := by decide +kernel
theorem dX7_kindOfWord_17 : decode cX7_kindOfWord 17 = .ok (.iload_n 2, 1) := by decide +kernel
theorem dX7_kindOfWord_18 : decode cX7_kindOfWord 18 = .ok (.invokevirtual 57, 3) := by decide +kernel
theorem dX7_kindOfWord_21 : decode cX7_kindOfWord 21 = .ok (.ifCond .eq 5, 3) := by decide +kernel
theorem dX7_kindOfWord_24 : decode cX7_kindOfWord 24 = .ok (.iconst 5, 1) := by decide +kernel
theorem dX7_kindOfWord_25 : decode cX7_kindOfWord 25 = .ok (.ireturn, 1) := by decide +kernel
theorem dX7_kindOfWord_26 : decode cX7_kindOfWord 26 = .ok (.aload_n 0, 1) := by decide +kernel
theorem dX7_kindOfWord_27 : decode cX7_kindOfWord 27 = .ok (.ldc 63, 2) := by decide +kernel
theorem dX7_kindOfWord_29 : decode cX7_kindOfWord 29 = .ok (.aload_n 1, 1) := by decide +kernel
theorem dX7_kindOfWord_30 : decode cX7_kindOfWord 30 = .ok (.iload_n 2, 1) := by decide +kernel
theorem dX7_kindOfWord_31 : decode cX7_kindOfWord 31 = .ok (.invokevirtual 57, 3) := by decide +kernel
theorem dX7_kindOfWord_34 : decode cX7_kindOfWord 34 = .ok (.ifCond .eq 6, 3) := by decide +kernel
theorem dX7_kindOfWord_37 : decode cX7_kindOfWord 37 = .ok (.bipush 6, 2) := by decide +kernel
theorem dX7_kindOfWord_39 : decode cX7_kindOfWord 39 = .ok (.ireturn, 1) := by decide +kernel
theorem dX7_kindOfWord_40 : decode cX7_kindOfWord 40 = .ok (.aload_n 0, 1) := by decide +kernel
theorem dX7_kindOfWord_41 : decode cX7_kindOfWord 41 = .ok (.ldc 65, 2) := by decide +kernel
theorem dX7_kindOfWord_43 : decode cX7_kindOfWord 43 = .ok (.aload_n 1, 1) := by decide +kernel
theorem dX7_kindOfWord_44 : decode cX7_kindOfWord 44 = .ok (.iload_n 2, 1) := by decide +kernel
theorem dX7_kindOfWord_45 : decode cX7_kindOfWord 45 = .ok (.invokevirtual 57, 3) := by decide +kernel
theorem dX7_kindOfWord_48 : decode cX7_kindOfWord 48 = .ok (.ifCond .eq 6, 3) := by decide +kernel
theorem dX7_kindOfWord_51 : decode cX7_kindOfWord 51 = .ok (.bipush 7, 2) := by decide +kernel
theorem dX7_kindOfWord_53 : decode cX7_kindOfWord 53 = .ok (.ireturn, 1) := by decide +kernel
theorem dX7_kindOfWord_54 : decode cX7_kindOfWord 54 = .ok (.aload_n 0, 1) := by decide +kernel
theorem dX7_kindOfWord_55 : decode cX7_kindOfWord 55 = .ok (.ldc 67, 2) := by decide +kernel
theorem dX7_kindOfWord_57 : decode cX7_kindOfWord 57 = .ok (.aload_n 1, 1) := by decide +kernel
theorem dX7_kindOfWord_58 : decode cX7_kindOfWord 58 = .ok (.iload_n 2, 1) := by decide +kernel
theorem dX7_kindOfWord_59 : decode cX7_kindOfWord 59 = .ok (.invokevirtual 57, 3) := by decide +kernel
theorem dX7_kindOfWord_62 : decode cX7_kindOfWord 62 = .ok (.ifCond .eq 6, 3) := by decide +kernel
theorem dX7_kindOfWord_65 : decode cX7_kindOfWord 65 = .ok (.bipush 8, 2) := by decide +kernel
theorem dX7_kindOfWord_67 : decode cX7_kindOfWord 67 = .ok (.ireturn, 1) := by decide +kernel
theorem dX7_kindOfWord_68 : decode cX7_kindOfWord 68 = .ok (.aload_n 0, 1) := by decide +kernel
theorem dX7_kindOfWord_69 : decode cX7_kindOfWord 69 = .ok (.ldc 69, 2) := by decide +kernel
theorem dX7_kindOfWord_71 : decode cX7_kindOfWord 71 = .ok (.aload_n 1, 1) := by decide +kernel
theorem dX7_kindOfWord_72 : decode cX7_kindOfWord 72 = .ok (.iload_n 2, 1) := by decide +kernel
theorem dX7_kindOfWord_73 : decode cX7_kindOfWord 73 = .ok (.invokevirtual 57, 3) := by decide +kernel
theorem dX7_kindOfWord_76 : decode cX7_kindOfWord 76 = .ok (.ifCond .eq 6, 3) := by decide +kernel
theorem dX7_kindOfWord_79 : decode cX7_kindOfWord 79 = .ok (.bipush 9, 2) := by decide +kernel
theorem dX7_kindOfWord_81 : decode cX7_kindOfWord 81 = .ok (.ireturn, 1) := by decide +kernel
theorem dX7_kindOfWord_82 : decode cX7_kindOfWord 82 = .ok (.aload_n 0, 1) := by decide +kernel
theorem dX7_kindOfWord_83 : decode cX7_kindOfWord 83 = .ok (.ldc 71, 2) := by decide +kernel
theorem dX7_kindOfWord_85 : decode cX7_kindOfWord 85 = .ok (.aload_n 1, 1) := by decide +kernel
theorem dX7_kindOfWord_86 : decode cX7_kindOfWord 86 = .ok (.iload_n 2, 1) := by decide +kernel
theorem dX7_kindOfWord_87 : decode cX7_kindOfWord 87 = .ok (.invokevirtual 57, 3) := by decide +kernel
theorem dX7_kindOfWord_90 : decode cX7_kindOfWord 90 = .ok (.ifCond .eq 8, 3) := by decide +kernel
theorem dX7_kindOfWord_93 : decode cX7_kindOfWord 93 = .ok (.bipush 10, 2) := by decide +kernel
theorem dX7_kindOfWord_95 : decode cX7_kindOfWord 95 = .ok (.goto 4, 3) := by decide +kernel
theorem dX7_kindOfWord_98 : decode cX7_kindOfWord 98 = .ok (.iconst 1, 1) := by decide +kernel
theorem dX7_kindOfWord_99 : decode cX7_kindOfWord 99 = .ok (.ireturn, 1) := by decide +kernel
theorem dX7_isWord_0 : decode cX7_isWord 0 = .ok (.aload_n 0, 1) := by decide +kernel
theorem dX7_isWord_1 : decode cX7_isWord 1 = .ok (.getfield 31, 3) := by decide +kernel
theorem dX7_isWord_4 : decode cX7_isWord 4 = .ok (.iload_n 3, 1) := by decide +kernel
theorem dX7_isWord_5 : decode cX7_isWord 5 = .ok (.isub, 1) := by decide +kernel
theorem dX7_isWord_6 : decode cX7_isWord 6 = .ok (.aload_n 1, 1) := by decide +kernel
theorem dX7_isWord_7 : decode cX7_isWord 7 = .ok (.invokevirtual 73, 3) := by decide +kernel
theorem dX7_isWord_10 : decode cX7_isWord 10 = .ok (.if_icmp .eq 5, 3) := by decide +kernel
theorem dX7_isWord_13 : decode cX7_isWord 13 = .ok (.iconst 0, 1) := by decide +kernel
theorem dX7_isWord_14 : decode cX7_isWord 14 = .ok (.ireturn, 1) := by decide +kernel
theorem dX7_isWord_15 : decode cX7_isWord 15 = .ok (.iconst 0, 1) := by decide +kernel
theorem dX7_isWord_16 : decode cX7_isWord 16 = .ok (.istore 4, 2) := by decide +kernel
theorem dX7_isWord_18 : decode cX7_isWord 18 = .ok (.iload 4, 2) := by decide +kernel
theorem dX7_isWord_20 : decode cX7_isWord 20 = .ok (.aload_n 1, 1) := by decide +kernel
theorem dX7_isWord_21 : decode cX7_isWord 21 = .ok (.invokevirtual 73, 3) := by decide +kernel
theorem dX7_isWord_24 : decode cX7_isWord 24 = .ok (.if_icmp .ge 26, 3) := by decide +kernel
theorem dX7_isWord_27 : decode cX7_isWord 27 = .ok (.aload_n 2, 1) := by decide +kernel
theorem dX7_isWord_28 : decode cX7_isWord 28 = .ok (.iload_n 3, 1) := by decide +kernel
theorem dX7_isWord_29 : decode cX7_isWord 29 = .ok (.iload 4, 2) := by decide +kernel
theorem dX7_isWord_31 : decode cX7_isWord 31 = .ok (.iadd, 1) := by decide +kernel
theorem dX7_isWord_32 : decode cX7_isWord 32 = .ok (.baload, 1) := by decide +kernel
theorem dX7_isWord_33 : decode cX7_isWord 33 = .ok (.aload_n 1, 1) := by decide +kernel
theorem dX7_isWord_34 : decode cX7_isWord 34 = .ok (.iload 4, 2) := by decide +kernel
theorem dX7_isWord_36 : decode cX7_isWord 36 = .ok (.invokevirtual 79, 3) := by decide +kernel
theorem dX7_isWord_39 : decode cX7_isWord 39 = .ok (.if_icmp .eq 5, 3) := by decide +kernel
theorem dX7_isWord_42 : decode cX7_isWord 42 = .ok (.iconst 0, 1) := by decide +kernel
theorem dX7_isWord_43 : decode cX7_isWord 43 = .ok (.ireturn, 1) := by decide +kernel
theorem dX7_isWord_44 : decode cX7_isWord 44 = .ok (.iinc 4 1, 3) := by decide +kernel
theorem dX7_isWord_47 : decode cX7_isWord 47 = .ok (.goto (-29), 3) := by decide +kernel
theorem dX7_isWord_50 : decode cX7_isWord 50 = .ok (.iconst 1, 1) := by decide +kernel
theorem dX7_isWord_51 : decode cX7_isWord 51 = .ok (.ireturn, 1) := by decide +kernel
theorem dX7_isSmallLetter_0 : decode cX7_isSmallLetter 0 = .ok (.iload_n 0, 1) := by decide +kernel
theorem dX7_isSmallLetter_1 : decode cX7_isSmallLetter 1 = .ok (.bipush 97, 2) := by decide +kernel
theorem dX7_isSmallLetter_3 : decode cX7_isSmallLetter 3 = .ok (.if_icmp .lt 13, 3) := by decide +kernel
theorem dX7_isSmallLetter_6 : decode cX7_isSmallLetter 6 = .ok (.iload_n 0, 1) := by decide +kernel
theorem dX7_isSmallLetter_7 : decode cX7_isSmallLetter 7 = .ok (.bipush 122, 2) := by decide +kernel
theorem dX7_isSmallLetter_9 : decode cX7_isSmallLetter 9 = .ok (.if_icmp .gt 7, 3) := by decide +kernel
theorem dX7_isSmallLetter_12 : decode cX7_isSmallLetter 12 = .ok (.iconst 1, 1) := by decide +kernel
theorem dX7_isSmallLetter_13 : decode cX7_isSmallLetter 13 = .ok (.goto 4, 3) := by decide +kernel
theorem dX7_isSmallLetter_16 : decode cX7_isSmallLetter 16 = .ok (.iconst 0, 1) := by decide +kernel
theorem dX7_isSmallLetter_17 : decode cX7_isSmallLetter 17 = .ok (.ireturn, 1) := by decide +kernel
theorem dX7_isDigit_0 : decode cX7_isDigit 0 = .ok (.iload_n 0, 1) := by decide +kernel
theorem dX7_isDigit_1 : decode cX7_isDigit 1 = .ok (.bipush 48, 2) := by decide +kernel
theorem dX7_isDigit_3 : decode cX7_isDigit 3 = .ok (.if_icmp .lt 13, 3) := by decide +kernel
theorem dX7_isDigit_6 : decode cX7_isDigit 6 = .ok (.iload_n 0, 1) := by decide +kernel
theorem dX7_isDigit_7 : decode cX7_isDigit 7 = .ok (.bipush 57, 2) := by decide +kernel
theorem dX7_isDigit_9 : decode cX7_isDigit 9 = .ok (.if_icmp .gt 7, 3) := by decide +kernel
theorem dX7_isDigit_12 : decode cX7_isDigit 12 = .ok (.iconst 1, 1) := by decide +kernel
theorem dX7_isDigit_13 : decode cX7_isDigit 13 = .ok (.goto 4, 3) := by decide +kernel
theorem dX7_isDigit_16 : decode cX7_isDigit 16 = .ok (.iconst 0, 1) := by decide +kernel
theorem dX7_isDigit_17 : decode cX7_isDigit 17 = .ok (.ireturn, 1) := by decide +kernel
theorem dX8_init_0 : decode cX8_init 0 = .ok (.aload_n 0, 1) := by decide +kernel
theorem dX8_init_1 : decode cX8_init 1 = .ok (.invokespecial 3, 3) := by decide +kernel
theorem dX8_init_4 : decode cX8_init 4 = .ok (.aload_n 0, 1) := by decide +kernel
theorem dX8_init_5 : decode cX8_init 5 = .ok (.iconst 4, 1) := by decide +kernel
theorem dX8_init_6 : decode cX8_init 6 = .ok (.newarray .int, 2) := by decide +kernel
theorem dX8_init_8 : decode cX8_init 8 = .ok (.putfield 9, 3) := by decide +kernel
theorem dX8_init_11 : decode cX8_init 11 = .ok (.aload_n 0, 1) := by decide +kernel
theorem dX8_init_12 : decode cX8_init 12 = .ok (.iconst 4, 1) := by decide +kernel
theorem dX8_init_13 : decode cX8_init 13 = .ok (.newarray .int, 2) := by decide +kernel
theorem dX8_init_15 : decode cX8_init 15 = .ok (.putfield 15, 3) := by decide +kernel
theorem dX8_init_18 : decode cX8_init 18 = .ok (.aload_n 0, 1) := by decide +kernel
theorem dX8_init_19 : decode cX8_init 19 = .ok (.iconst 4, 1) := by decide +kernel
theorem dX8_init_20 : decode cX8_init 20 = .ok (.newarray .int, 2) := by decide +kernel
theorem dX8_init_22 : decode cX8_init 22 = .ok (.putfield 18, 3) := by decide +kernel
theorem dX8_init_25 : decode cX8_init 25 = .ok (.aload_n 0, 1) := by decide +kernel
theorem dX8_init_26 : decode cX8_init 26 = .ok (.bipush 20, 2) := by decide +kernel
theorem dX8_init_28 : decode cX8_init 28 = .ok (.putfield 21, 3) := by decide +kernel
theorem dX8_init_31 : decode cX8_init 31 = .ok (.return_, 1) := by decide +kernel
theorem dX8_addWheel_0 : decode cX8_addWheel 0 = .ok (.aload_n 0, 1) := by decide +kernel
theorem dX8_addWheel_1 : decode cX8_addWheel 1 = .ok (.getfield 25, 3) := by decide +kernel
theorem dX8_addWheel_4 : decode cX8_addWheel 4 = .ok (.iconst 4, 1) := by decide +kernel
theorem dX8_addWheel_5 : decode cX8_addWheel 5 = .ok (.if_icmp .ge 28, 3) := by decide +kernel
theorem dX8_addWheel_8 : decode cX8_addWheel 8 = .ok (.aload_n 0, 1) := by decide +kernel
theorem dX8_addWheel_9 : decode cX8_addWheel 9 = .ok (.getfield 9, 3) := by decide +kernel
theorem dX8_addWheel_12 : decode cX8_addWheel 12 = .ok (.aload_n 0, 1) := by decide +kernel
theorem dX8_addWheel_13 : decode cX8_addWheel 13 = .ok (.getfield 25, 3) := by decide +kernel
theorem dX8_addWheel_16 : decode cX8_addWheel 16 = .ok (.aload_n 0, 1) := by decide +kernel
theorem dX8_addWheel_17 : decode cX8_addWheel 17 = .ok (.getfield 21, 3) := by decide +kernel
theorem dX8_addWheel_20 : decode cX8_addWheel 20 = .ok (.iload_n 1, 1) := by decide +kernel
theorem dX8_addWheel_21 : decode cX8_addWheel 21 = .ok (.isub, 1) := by decide +kernel
theorem dX8_addWheel_22 : decode cX8_addWheel 22 = .ok (.iastore, 1) := by decide +kernel
theorem dX8_addWheel_23 : decode cX8_addWheel 23 = .ok (.aload_n 0, 1) := by decide +kernel
theorem dX8_addWheel_24 : decode cX8_addWheel 24 = .ok (.dup, 1) := by decide +kernel
theorem dX8_addWheel_25 : decode cX8_addWheel 25 = .ok (.getfield 25, 3) := by decide +kernel
theorem dX8_addWheel_28 : decode cX8_addWheel 28 = .ok (.iconst 1, 1) := by decide +kernel
theorem dX8_addWheel_29 : decode cX8_addWheel 29 = .ok (.iadd, 1) := by decide +kernel
theorem dX8_addWheel_30 : decode cX8_addWheel 30 = .ok (.putfield 25, 3) := by decide +kernel
theorem dX8_addWheel_33 : decode cX8_addWheel 33 = .ok (.return_, 1) := by decide +kernel
theorem dX8_goHome_0 : decode cX8_goHome 0 = .ok (.aload_n 0, 1) := by decide +kernel
theorem dX8_goHome_1 : decode cX8_goHome 1 = .ok (.iconst 0, 1) := by decide +kernel
theorem dX8_goHome_2 : decode cX8_goHome 2 = .ok (.putfield 28, 3) := by decide +kernel
theorem dX8_goHome_5 : decode cX8_goHome 5 = .ok (.iconst 0, 1) := by decide +kernel
theorem dX8_goHome_6 : decode cX8_goHome 6 = .ok (.istore_n 1, 1) := by decide +kernel
theorem dX8_goHome_7 : decode cX8_goHome 7 = .ok (.iload_n 1, 1) := by decide +kernel
theorem dX8_goHome_8 : decode cX8_goHome 8 = .ok (.iconst 4, 1) := by decide +kernel
theorem dX8_goHome_9 : decode cX8_goHome 9 = .ok (.if_icmp .ge 23, 3) := by decide +kernel
theorem dX8_goHome_12 : decode cX8_goHome 12 = .ok (.aload_n 0, 1) := by decide +kernel
theorem dX8_goHome_13 : decode cX8_goHome 13 = .ok (.getfield 15, 3) := by decide +kernel
theorem dX8_goHome_16 : decode cX8_goHome 16 = .ok (.iload_n 1, 1) := by decide +kernel
theorem dX8_goHome_17 : decode cX8_goHome 17 = .ok (.iconst 0, 1) := by decide +kernel
theorem dX8_goHome_18 : decode cX8_goHome 18 = .ok (.iastore, 1) := by decide +kernel
theorem dX8_goHome_19 : decode cX8_goHome 19 = .ok (.aload_n 0, 1) := by decide +kernel
theorem dX8_goHome_20 : decode cX8_goHome 20 = .ok (.getfield 18, 3) := by decide +kernel
theorem dX8_goHome_23 : decode cX8_goHome 23 = .ok (.iload_n 1, 1) := by decide +kernel
theorem dX8_goHome_24 : decode cX8_goHome 24 = .ok (.iconst 0, 1) := by decide +kernel
theorem dX8_goHome_25 : decode cX8_goHome 25 = .ok (.iastore, 1) := by decide +kernel
theorem dX8_goHome_26 : decode cX8_goHome 26 = .ok (.iinc 1 1, 3) := by decide +kernel
theorem dX8_goHome_29 : decode cX8_goHome 29 = .ok (.goto (-22), 3) := by decide +kernel
theorem dX8_goHome_32 : decode cX8_goHome 32 = .ok (.return_, 1) := by decide +kernel
theorem dX8_becomeLike_0 : decode cX8_becomeLike 0 = .ok (.aload_n 0, 1) := by decide +kernel
theorem dX8_becomeLike_1 : decode cX8_becomeLike 1 = .ok (.aload_n 1, 1) := by decide +kernel
theorem dX8_becomeLike_2 : decode cX8_becomeLike 2 = .ok (.getfield 21, 3) := by decide +kernel
theorem dX8_becomeLike_5 : decode cX8_becomeLike 5 = .ok (.putfield 21, 3) := by decide +kernel
theorem dX8_becomeLike_8 : decode cX8_becomeLike 8 = .ok (.aload_n 0, 1) := by decide +kernel
theorem dX8_becomeLike_9 : decode cX8_becomeLike 9 = .ok (.aload_n 1, 1) := by decide +kernel
theorem dX8_becomeLike_10 : decode cX8_becomeLike 10 = .ok (.getfield 25, 3) := by decide +kernel
theorem dX8_becomeLike_13 : decode cX8_becomeLike 13 = .ok (.putfield 25, 3) := by decide +kernel
theorem dX8_becomeLike_16 : decode cX8_becomeLike 16 = .ok (.iconst 0, 1) := by decide +kernel
theorem dX8_becomeLike_17 : decode cX8_becomeLike 17 = .ok (.istore_n 2, 1) := by decide +kernel
theorem dX8_becomeLike_18 : decode cX8_becomeLike 18 = .ok (.iload_n 2, 1) := by decide +kernel
theorem dX8_becomeLike_19 : decode cX8_becomeLike 19 = .ok (.iconst 4, 1) := by decide +kernel
theorem dX8_becomeLike_20 : decode cX8_becomeLike 20 = .ok (.if_icmp .ge 21, 3) := by decide +kernel
theorem dX8_becomeLike_23 : decode cX8_becomeLike 23 = .ok (.aload_n 0, 1) := by decide +kernel
theorem dX8_becomeLike_24 : decode cX8_becomeLike 24 = .ok (.getfield 9, 3) := by decide +kernel
theorem dX8_becomeLike_27 : decode cX8_becomeLike 27 = .ok (.iload_n 2, 1) := by decide +kernel
theorem dX8_becomeLike_28 : decode cX8_becomeLike 28 = .ok (.aload_n 1, 1) := by decide +kernel
theorem dX8_becomeLike_29 : decode cX8_becomeLike 29 = .ok (.getfield 9, 3) := by decide +kernel
theorem dX8_becomeLike_32 : decode cX8_becomeLike 32 = .ok (.iload_n 2, 1) := by decide +kernel
theorem dX8_becomeLike_33 : decode cX8_becomeLike 33 = .ok (.iaload, 1) := by decide +kernel
theorem dX8_becomeLike_34 : decode cX8_becomeLike 34 = .ok (.iastore, 1) := by decide +kernel
theorem dX8_becomeLike_35 : decode cX8_becomeLike 35 = .ok (.iinc 2 1, 3) := by decide +kernel
theorem dX8_becomeLike_38 : decode cX8_becomeLike 38 = .ok (.goto (-20), 3) := by decide +kernel
theorem dX8_becomeLike_41 : decode cX8_becomeLike 41 = .ok (.return_, 1) := by decide +kernel
theorem dX8_wrap_0 : decode cX8_wrap 0 = .ok (.iload_n 1, 1) := by decide +kernel
theorem dX8_wrap_1 : decode cX8_wrap 1 = .ok (.iconst 1, 1) := by decide +kernel
theorem dX8_wrap_2 : decode cX8_wrap 2 = .ok (.aload_n 0, 1) := by decide +kernel
theorem dX8_wrap_3 : decode cX8_wrap 3 = .ok (.getfield 21, 3) := by decide +kernel
theorem dX8_wrap_6 : decode cX8_wrap 6 = .ok (.invokestatic 31, 3) := by decide +kernel
theorem dX8_wrap_9 : decode cX8_wrap 9 = .ok (.invokestatic 37, 3) := by decide +kernel
theorem dX8_wrap_12 : decode cX8_wrap 12 = .ok (.ireturn, 1) := by decide +kernel
theorem dX8_far_0 : decode cX8_far 0 = .ok (.iload_n 1, 1) := by decide +kernel
theorem dX8_far_1 : decode cX8_far 1 = .ok (.iload_n 2, 1) := by decide +kernel
theorem dX8_far_2 : decode cX8_far 2 = .ok (.if_icmp .ge 9, 3) := by decide +kernel
theorem dX8_far_5 : decode cX8_far 5 = .ok (.iload_n 2, 1) := by decide +kernel
theorem dX8_far_6 : decode cX8_far 6 = .ok (.iload_n 1, 1) := by decide +kernel
theorem dX8_far_7 : decode cX8_far 7 = .ok (.isub, 1) := by decide +kernel
theorem dX8_far_8 : decode cX8_far 8 = .ok (.goto 6, 3) := by decide +kernel
theorem dX8_far_11 : decode cX8_far 11 = .ok (.iload_n 1, 1) := by decide +kernel
theorem dX8_far_12 : decode cX8_far 12 = .ok (.iload_n 2, 1) := by decide +kernel
theorem dX8_far_13 : decode cX8_far 13 = .ok (.isub, 1) := by decide +kernel
theorem dX8_far_14 : decode cX8_far 14 = .ok (.istore_n 3, 1) := by decide +kernel
theorem dX8_far_15 : decode cX8_far 15 = .ok (.iconst 2, 1) := by decide +kernel
theorem dX8_far_16 : decode cX8_far 16 = .ok (.iload_n 3, 1) := by decide +kernel
theorem dX8_far_17 : decode cX8_far 17 = .ok (.imul, 1) := by decide +kernel
theorem dX8_far_18 : decode cX8_far 18 = .ok (.aload_n 0, 1) := by decide +kernel
theorem dX8_far_19 : decode cX8_far 19 = .ok (.getfield 21, 3) := by decide +kernel
theorem dX8_far_22 : decode cX8_far 22 = .ok (.if_icmp .le 12, 3) := by decide +kernel
theorem dX8_far_25 : decode cX8_far 25 = .ok (.aload_n 0, 1) := by decide +kernel
theorem dX8_far_26 : decode cX8_far 26 = .ok (.getfield 21, 3) := by decide +kernel
theorem dX8_far_29 : decode cX8_far 29 = .ok (.iload_n 3, 1) := by decide +kernel
theorem dX8_far_30 : decode cX8_far 30 = .ok (.isub, 1) := by decide +kernel
theorem dX8_far_31 : decode cX8_far 31 = .ok (.goto 4, 3) := by decide +kernel
theorem dX8_far_34 : decode cX8_far 34 = .ok (.iload_n 3, 1) := by decide +kernel
theorem dX8_far_35 : decode cX8_far 35 = .ok (.ireturn, 1) := by decide +kernel
theorem dX8_spin_0 : decode cX8_spin 0 = .ok (.iload_n 1, 1) := by decide +kernel
theorem dX8_spin_1 : decode cX8_spin 1 = .ok (.iconst 1, 1) := by decide +kernel
theorem dX8_spin_2 : decode cX8_spin 2 = .ok (.if_icmp .ge 4, 3) := by decide +kernel
theorem dX8_spin_5 : decode cX8_spin 5 = .ok (.return_, 1) := by decide +kernel
theorem dX8_spin_6 : decode cX8_spin 6 = .ok (.aload_n 0, 1) := by decide +kernel
theorem dX8_spin_7 : decode cX8_spin 7 = .ok (.iload_n 2, 1) := by decide +kernel
theorem dX8_spin_8 : decode cX8_spin 8 = .ok (.putfield 40, 3) := by decide +kernel
theorem dX8_spin_11 : decode cX8_spin 11 = .ok (.aload_n 0, 1) := by decide +kernel
theorem dX8_spin_12 : decode cX8_spin 12 = .ok (.aload_n 0, 1) := by decide +kernel
theorem dX8_spin_13 : decode cX8_spin 13 = .ok (.iload_n 2, 1) := by decide +kernel
theorem dX8_spin_14 : decode cX8_spin 14 = .ok (.ifCond .eq 12, 3) := by decide +kernel
theorem dX8_spin_17 : decode cX8_spin 17 = .ok (.aload_n 0, 1) := by decide +kernel
theorem dX8_spin_18 : decode cX8_spin 18 = .ok (.getfield 28, 3) := by decide +kernel
theorem dX8_spin_21 : decode cX8_spin 21 = .ok (.iload_n 1, 1) := by decide +kernel
theorem dX8_spin_22 : decode cX8_spin 22 = .ok (.iadd, 1) := by decide +kernel
theorem dX8_spin_23 : decode cX8_spin 23 = .ok (.goto 9, 3) := by decide +kernel
theorem dX8_spin_26 : decode cX8_spin 26 = .ok (.aload_n 0, 1) := by decide +kernel
theorem dX8_spin_27 : decode cX8_spin 27 = .ok (.getfield 28, 3) := by decide +kernel
theorem dX8_spin_30 : decode cX8_spin 30 = .ok (.iload_n 1, 1) := by decide +kernel
theorem dX8_spin_31 : decode cX8_spin 31 = .ok (.isub, 1) := by decide +kernel
theorem dX8_spin_32 : decode cX8_spin 32 = .ok (.invokevirtual 44, 3) := by decide +kernel
theorem dX8_spin_35 : decode cX8_spin 35 = .ok (.putfield 28, 3) := by decide +kernel
theorem dX8_spin_38 : decode cX8_spin 38 = .ok (.iload_n 1, 1) := by decide +kernel
theorem dX8_spin_39 : decode cX8_spin 39 = .ok (.istore_n 3, 1) := by decide +kernel
theorem dX8_spin_40 : decode cX8_spin 40 = .ok (.iconst 0, 1) := by decide +kernel
theorem dX8_spin_41 : decode cX8_spin 41 = .ok (.istore 4, 2) := by decide +kernel
theorem dX8_spin_43 : decode cX8_spin 43 = .ok (.iload 4, 2) := by decide +kernel
theorem dX8_spin_45 : decode cX8_spin 45 = .ok (.aload_n 0, 1) := by decide +kernel
theorem dX8_spin_46 : decode cX8_spin 46 = .ok (.getfield 25, 3) := by decide +kernel
theorem dX8_spin_49 : decode cX8_spin 49 = .ok (.if_icmp .ge 85, 3) := by decide +kernel
theorem dX8_spin_52 : decode cX8_spin 52 = .ok (.iload_n 3, 1) := by decide +kernel
theorem dX8_spin_53 : decode cX8_spin 53 = .ok (.aload_n 0, 1) := by decide +kernel
theorem dX8_spin_54 : decode cX8_spin 54 = .ok (.iload 4, 2) := by decide +kernel
theorem dX8_spin_56 : decode cX8_spin 56 = .ok (.iload_n 2, 1) := by decide +kernel
theorem dX8_spin_57 : decode cX8_spin 57 = .ok (.invokevirtual 48, 3) := by decide +kernel
theorem dX8_spin_60 : decode cX8_spin 60 = .ok (.invokestatic 52, 3) := by decide +kernel
theorem dX8_spin_63 : decode cX8_spin 63 = .ok (.istore 5, 2) := by decide +kernel
theorem dX8_spin_65 : decode cX8_spin 65 = .ok (.iload_n 3, 1) := by decide +kernel
theorem dX8_spin_66 : decode cX8_spin 66 = .ok (.iload 5, 2) := by decide +kernel
theorem dX8_spin_68 : decode cX8_spin 68 = .ok (.isub, 1) := by decide +kernel
theorem dX8_spin_69 : decode cX8_spin 69 = .ok (.istore_n 3, 1) := by decide +kernel
theorem dX8_spin_70 : decode cX8_spin 70 = .ok (.aload_n 0, 1) := by decide +kernel
theorem dX8_spin_71 : decode cX8_spin 71 = .ok (.getfield 15, 3) := by decide +kernel
theorem dX8_spin_74 : decode cX8_spin 74 = .ok (.iload 4, 2) := by decide +kernel
theorem dX8_spin_76 : decode cX8_spin 76 = .ok (.dup2, 1) := by decide +kernel
theorem dX8_spin_77 : decode cX8_spin 77 = .ok (.iaload, 1) := by decide +kernel
theorem dX8_spin_78 : decode cX8_spin 78 = .ok (.iload_n 2, 1) := by decide +kernel
theorem dX8_spin_79 : decode cX8_spin 79 = .ok (.ifCond .eq 8, 3) := by decide +kernel
theorem dX8_spin_82 : decode cX8_spin 82 = .ok (.iload 5, 2) := by decide +kernel
theorem dX8_spin_84 : decode cX8_spin 84 = .ok (.goto 6, 3) := by decide +kernel
theorem dX8_spin_87 : decode cX8_spin 87 = .ok (.iload 5, 2) := by decide +kernel
theorem dX8_spin_89 : decode cX8_spin 89 = .ok (.ineg, 1) := by decide +kernel
theorem dX8_spin_90 : decode cX8_spin 90 = .ok (.iadd, 1) := by decide +kernel
theorem dX8_spin_91 : decode cX8_spin 91 = .ok (.iastore, 1) := by decide +kernel
theorem dX8_spin_92 : decode cX8_spin 92 = .ok (.aload_n 0, 1) := by decide +kernel
theorem dX8_spin_93 : decode cX8_spin 93 = .ok (.getfield 18, 3) := by decide +kernel
theorem dX8_spin_96 : decode cX8_spin 96 = .ok (.iload 4, 2) := by decide +kernel
theorem dX8_spin_98 : decode cX8_spin 98 = .ok (.aload_n 0, 1) := by decide +kernel
theorem dX8_spin_99 : decode cX8_spin 99 = .ok (.iload_n 2, 1) := by decide +kernel
theorem dX8_spin_100 : decode cX8_spin 100 = .ok (.ifCond .eq 15, 3) := by decide +kernel
theorem dX8_spin_103 : decode cX8_spin 103 = .ok (.aload_n 0, 1) := by decide +kernel
theorem dX8_spin_104 : decode cX8_spin 104 = .ok (.getfield 18, 3) := by decide +kernel
theorem dX8_spin_107 : decode cX8_spin 107 = .ok (.iload 4, 2) := by decide +kernel
theorem dX8_spin_109 : decode cX8_spin 109 = .ok (.iaload, 1) := by decide +kernel
theorem dX8_spin_110 : decode cX8_spin 110 = .ok (.iload_n 3, 1) := by decide +kernel
theorem dX8_spin_111 : decode cX8_spin 111 = .ok (.iadd, 1) := by decide +kernel
theorem dX8_spin_112 : decode cX8_spin 112 = .ok (.goto 12, 3) := by decide +kernel
theorem dX8_spin_115 : decode cX8_spin 115 = .ok (.aload_n 0, 1) := by decide +kernel
theorem dX8_spin_116 : decode cX8_spin 116 = .ok (.getfield 18, 3) := by decide +kernel
theorem dX8_spin_119 : decode cX8_spin 119 = .ok (.iload 4, 2) := by decide +kernel
theorem dX8_spin_121 : decode cX8_spin 121 = .ok (.iaload, 1) := by decide +kernel
theorem dX8_spin_122 : decode cX8_spin 122 = .ok (.iload_n 3, 1) := by decide +kernel
theorem dX8_spin_123 : decode cX8_spin 123 = .ok (.isub, 1) := by decide +kernel
theorem dX8_spin_124 : decode cX8_spin 124 = .ok (.invokevirtual 44, 3) := by decide +kernel
theorem dX8_spin_127 : decode cX8_spin 127 = .ok (.iastore, 1) := by decide +kernel
theorem dX8_spin_128 : decode cX8_spin 128 = .ok (.iinc 4 1, 3) := by decide +kernel
theorem dX8_spin_131 : decode cX8_spin 131 = .ok (.goto (-88), 3) := by decide +kernel
theorem dX8_spin_134 : decode cX8_spin 134 = .ok (.return_, 1) := by decide +kernel
theorem dX8_play_0 : decode cX8_play 0 = .ok (.iload_n 2, 1) := by decide +kernel
theorem dX8_play_1 : decode cX8_play 1 = .ok (.ifCond .eq 19, 3) := by decide +kernel
theorem dX8_play_4 : decode cX8_play 4 = .ok (.aload_n 0, 1) := by decide +kernel
theorem dX8_play_5 : decode cX8_play 5 = .ok (.getfield 9, 3) := by decide +kernel
theorem dX8_play_8 : decode cX8_play 8 = .ok (.iload_n 1, 1) := by decide +kernel
theorem dX8_play_9 : decode cX8_play 9 = .ok (.iaload, 1) := by decide +kernel
theorem dX8_play_10 : decode cX8_play 10 = .ok (.aload_n 0, 1) := by decide +kernel
theorem dX8_play_11 : decode cX8_play 11 = .ok (.getfield 15, 3) := by decide +kernel
theorem dX8_play_14 : decode cX8_play 14 = .ok (.iload_n 1, 1) := by decide +kernel
theorem dX8_play_15 : decode cX8_play 15 = .ok (.iaload, 1) := by decide +kernel
theorem dX8_play_16 : decode cX8_play 16 = .ok (.isub, 1) := by decide +kernel
theorem dX8_play_17 : decode cX8_play 17 = .ok (.goto 9, 3) := by decide +kernel
theorem dX8_play_20 : decode cX8_play 20 = .ok (.aload_n 0, 1) := by decide +kernel
theorem dX8_play_21 : decode cX8_play 21 = .ok (.getfield 15, 3) := by decide +kernel
theorem dX8_play_24 : decode cX8_play 24 = .ok (.iload_n 1, 1) := by decide +kernel
theorem dX8_play_25 : decode cX8_play 25 = .ok (.iaload, 1) := by decide +kernel
theorem dX8_play_26 : decode cX8_play 26 = .ok (.ireturn, 1) := by decide +kernel
theorem dX8_stepsTo_0 : decode cX8_stepsTo 0 = .ok (.iload_n 2, 1) := by decide +kernel
theorem dX8_stepsTo_1 : decode cX8_stepsTo 1 = .ok (.ifCond .eq 12, 3) := by decide +kernel
theorem dX8_stepsTo_4 : decode cX8_stepsTo 4 = .ok (.iload_n 1, 1) := by decide +kernel
theorem dX8_stepsTo_5 : decode cX8_stepsTo 5 = .ok (.aload_n 0, 1) := by decide +kernel
theorem dX8_stepsTo_6 : decode cX8_stepsTo 6 = .ok (.getfield 28, 3) := by decide +kernel
theorem dX8_stepsTo_9 : decode cX8_stepsTo 9 = .ok (.isub, 1) := by decide +kernel
theorem dX8_stepsTo_10 : decode cX8_stepsTo 10 = .ok (.goto 9, 3) := by decide +kernel
theorem dX8_stepsTo_13 : decode cX8_stepsTo 13 = .ok (.aload_n 0, 1) := by decide +kernel
theorem dX8_stepsTo_14 : decode cX8_stepsTo 14 = .ok (.getfield 28, 3) := by decide +kernel
theorem dX8_stepsTo_17 : decode cX8_stepsTo 17 = .ok (.iload_n 1, 1) := by decide +kernel
theorem dX8_stepsTo_18 : decode cX8_stepsTo 18 = .ok (.isub, 1) := by decide +kernel
theorem dX8_stepsTo_19 : decode cX8_stepsTo 19 = .ok (.istore 4, 2) := by decide +kernel
theorem dX8_stepsTo_21 : decode cX8_stepsTo 21 = .ok (.iconst 1, 1) := by decide +kernel
theorem dX8_stepsTo_22 : decode cX8_stepsTo 22 = .ok (.aload_n 0, 1) := by decide +kernel
theorem dX8_stepsTo_23 : decode cX8_stepsTo 23 = .ok (.iload 4, 2) := by decide +kernel
theorem dX8_stepsTo_25 : decode cX8_stepsTo 25 = .ok (.iconst 1, 1) := by decide +kernel
theorem dX8_stepsTo_26 : decode cX8_stepsTo 26 = .ok (.isub, 1) := by decide +kernel
theorem dX8_stepsTo_27 : decode cX8_stepsTo 27 = .ok (.invokevirtual 44, 3) := by decide +kernel
theorem dX8_stepsTo_30 : decode cX8_stepsTo 30 = .ok (.iadd, 1) := by decide +kernel
theorem dX8_stepsTo_31 : decode cX8_stepsTo 31 = .ok (.iload_n 3, 1) := by decide +kernel
theorem dX8_stepsTo_32 : decode cX8_stepsTo 32 = .ok (.iconst 1, 1) := by decide +kernel
theorem dX8_stepsTo_33 : decode cX8_stepsTo 33 = .ok (.isub, 1) := by decide +kernel
theorem dX8_stepsTo_34 : decode cX8_stepsTo 34 = .ok (.aload_n 0, 1) := by decide +kernel
theorem dX8_stepsTo_35 : decode cX8_stepsTo 35 = .ok (.getfield 21, 3) := by decide +kernel
theorem dX8_stepsTo_38 : decode cX8_stepsTo 38 = .ok (.imul, 1) := by decide +kernel
theorem dX8_stepsTo_39 : decode cX8_stepsTo 39 = .ok (.iadd, 1) := by decide +kernel
theorem dX8_stepsTo_40 : decode cX8_stepsTo 40 = .ok (.ireturn, 1) := by decide +kernel
theorem dX8_stepsToSet_0 : decode cX8_stepsToSet 0 = .ok (.iconst 1, 1) := by decide +kernel
theorem dX8_stepsToSet_1 : decode cX8_stepsToSet 1 = .ok (.istore 4, 2) := by decide +kernel
theorem dX8_stepsToSet_3 : decode cX8_stepsToSet 3 = .ok (.iconst 0, 1) := by decide +kernel
theorem dX8_stepsToSet_4 : decode cX8_stepsToSet 4 = .ok (.istore 5, 2) := by decide +kernel
theorem dX8_stepsToSet_6 : decode cX8_stepsToSet 6 = .ok (.iload 5, 2) := by decide +kernel
theorem dX8_stepsToSet_8 : decode cX8_stepsToSet 8 = .ok (.iload_n 1, 1) := by decide +kernel
theorem dX8_stepsToSet_9 : decode cX8_stepsToSet 9 = .ok (.if_icmp .gt 21, 3) := by decide +kernel
theorem dX8_stepsToSet_12 : decode cX8_stepsToSet 12 = .ok (.iload 4, 2) := by decide +kernel
theorem dX8_stepsToSet_14 : decode cX8_stepsToSet 14 = .ok (.aload_n 0, 1) := by decide +kernel
theorem dX8_stepsToSet_15 : decode cX8_stepsToSet 15 = .ok (.iload 5, 2) := by decide +kernel
theorem dX8_stepsToSet_17 : decode cX8_stepsToSet 17 = .ok (.iload_n 3, 1) := by decide +kernel
theorem dX8_stepsToSet_18 : decode cX8_stepsToSet 18 = .ok (.invokevirtual 48, 3) := by decide +kernel
theorem dX8_stepsToSet_21 : decode cX8_stepsToSet 21 = .ok (.iadd, 1) := by decide +kernel
theorem dX8_stepsToSet_22 : decode cX8_stepsToSet 22 = .ok (.istore 4, 2) := by decide +kernel
theorem dX8_stepsToSet_24 : decode cX8_stepsToSet 24 = .ok (.iinc 5 1, 3) := by decide +kernel
theorem dX8_stepsToSet_27 : decode cX8_stepsToSet 27 = .ok (.goto (-21), 3) := by decide +kernel
theorem dX8_stepsToSet_30 : decode cX8_stepsToSet 30 = .ok (.aload_n 0, 1) := by decide +kernel
theorem dX8_stepsToSet_31 : decode cX8_stepsToSet 31 = .ok (.iload_n 1, 1) := by decide +kernel
theorem dX8_stepsToSet_32 : decode cX8_stepsToSet 32 = .ok (.iload_n 2, 1) := by decide +kernel
theorem dX8_stepsToSet_33 : decode cX8_stepsToSet 33 = .ok (.iload_n 3, 1) := by decide +kernel
theorem dX8_stepsToSet_34 : decode cX8_stepsToSet 34 = .ok (.invokevirtual 55, 3) := by decide +kernel
theorem dX8_stepsToSet_37 : decode cX8_stepsToSet 37 = .ok (.istore 5, 2) := by decide +kernel
theorem dX8_stepsToSet_39 : decode cX8_stepsToSet 39 = .ok (.iload_n 3, 1) := by decide +kernel
theorem dX8_stepsToSet_40 : decode cX8_stepsToSet 40 = .ok (.ifCond .eq 13, 3) := by decide +kernel
theorem dX8_stepsToSet_43 : decode cX8_stepsToSet 43 = .ok (.iload 5, 2) := by decide +kernel
theorem dX8_stepsToSet_45 : decode cX8_stepsToSet 45 = .ok (.aload_n 0, 1) := by decide +kernel
theorem dX8_stepsToSet_46 : decode cX8_stepsToSet 46 = .ok (.getfield 28, 3) := by decide +kernel
theorem dX8_stepsToSet_49 : decode cX8_stepsToSet 49 = .ok (.isub, 1) := by decide +kernel
theorem dX8_stepsToSet_50 : decode cX8_stepsToSet 50 = .ok (.goto 10, 3) := by decide +kernel
theorem dX8_stepsToSet_53 : decode cX8_stepsToSet 53 = .ok (.aload_n 0, 1) := by decide +kernel
theorem dX8_stepsToSet_54 : decode cX8_stepsToSet 54 = .ok (.getfield 28, 3) := by decide +kernel
theorem dX8_stepsToSet_57 : decode cX8_stepsToSet 57 = .ok (.iload 5, 2) := by decide +kernel
theorem dX8_stepsToSet_59 : decode cX8_stepsToSet 59 = .ok (.isub, 1) := by decide +kernel
theorem dX8_stepsToSet_60 : decode cX8_stepsToSet 60 = .ok (.istore 6, 2) := by decide +kernel
theorem dX8_stepsToSet_62 : decode cX8_stepsToSet 62 = .ok (.iload 4, 2) := by decide +kernel
theorem dX8_stepsToSet_64 : decode cX8_stepsToSet 64 = .ok (.aload_n 0, 1) := by decide +kernel
theorem dX8_stepsToSet_65 : decode cX8_stepsToSet 65 = .ok (.iload 6, 2) := by decide +kernel
theorem dX8_stepsToSet_67 : decode cX8_stepsToSet 67 = .ok (.iload 4, 2) := by decide +kernel
theorem dX8_stepsToSet_69 : decode cX8_stepsToSet 69 = .ok (.isub, 1) := by decide +kernel
theorem dX8_stepsToSet_70 : decode cX8_stepsToSet 70 = .ok (.invokevirtual 44, 3) := by decide +kernel
theorem dX8_stepsToSet_73 : decode cX8_stepsToSet 73 = .ok (.iadd, 1) := by decide +kernel
theorem dX8_stepsToSet_74 : decode cX8_stepsToSet 74 = .ok (.ireturn, 1) := by decide +kernel
theorem dX8_numberFor_0 : decode cX8_numberFor 0 = .ok (.iload_n 2, 1) := by decide +kernel
theorem dX8_numberFor_1 : decode cX8_numberFor 1 = .ok (.istore 4, 2) := by decide +kernel
theorem dX8_numberFor_3 : decode cX8_numberFor 3 = .ok (.iconst 0, 1) := by decide +kernel
theorem dX8_numberFor_4 : decode cX8_numberFor 4 = .ok (.istore 5, 2) := by decide +kernel
theorem dX8_numberFor_6 : decode cX8_numberFor 6 = .ok (.iload 5, 2) := by decide +kernel
theorem dX8_numberFor_8 : decode cX8_numberFor 8 = .ok (.iload_n 1, 1) := by decide +kernel
theorem dX8_numberFor_9 : decode cX8_numberFor 9 = .ok (.if_icmp .gt 25, 3) := by decide +kernel
theorem dX8_numberFor_12 : decode cX8_numberFor 12 = .ok (.iload_n 3, 1) := by decide +kernel
theorem dX8_numberFor_13 : decode cX8_numberFor 13 = .ok (.ifCond .eq 21, 3) := by decide +kernel
theorem dX8_numberFor_16 : decode cX8_numberFor 16 = .ok (.iload 4, 2) := by decide +kernel
theorem dX8_numberFor_18 : decode cX8_numberFor 18 = .ok (.aload_n 0, 1) := by decide +kernel
theorem dX8_numberFor_19 : decode cX8_numberFor 19 = .ok (.getfield 9, 3) := by decide +kernel
theorem dX8_numberFor_22 : decode cX8_numberFor 22 = .ok (.iload 5, 2) := by decide +kernel
theorem dX8_numberFor_24 : decode cX8_numberFor 24 = .ok (.iaload, 1) := by decide +kernel
theorem dX8_numberFor_25 : decode cX8_numberFor 25 = .ok (.iadd, 1) := by decide +kernel
theorem dX8_numberFor_26 : decode cX8_numberFor 26 = .ok (.istore 4, 2) := by decide +kernel
theorem dX8_numberFor_28 : decode cX8_numberFor 28 = .ok (.iinc 5 1, 3) := by decide +kernel
theorem dX8_numberFor_31 : decode cX8_numberFor 31 = .ok (.goto (-25), 3) := by decide +kernel
theorem dX8_numberFor_34 : decode cX8_numberFor 34 = .ok (.aload_n 0, 1) := by decide +kernel
theorem dX8_numberFor_35 : decode cX8_numberFor 35 = .ok (.iload 4, 2) := by decide +kernel
theorem dX8_numberFor_37 : decode cX8_numberFor 37 = .ok (.invokevirtual 44, 3) := by decide +kernel
theorem dX8_numberFor_40 : decode cX8_numberFor 40 = .ok (.ireturn, 1) := by decide +kernel
theorem dX9_init_0 : decode cX9_init 0 = .ok (.aload_n 0, 1) := by decide +kernel
theorem dX9_init_1 : decode cX9_init 1 = .ok (.invokespecial 3, 3) := by decide +kernel
theorem dX9_init_4 : decode cX9_init 4 = .ok (.return_, 1) := by decide +kernel
theorem dX9_form_0 : decode cX9_form 0 = .ok (.aload_n 0, 1) := by decide +kernel
theorem dX9_form_1 : decode cX9_form 1 = .ok (.iload_n 1, 1) := by decide +kernel
theorem dX9_form_2 : decode cX9_form 2 = .ok (.putfield 9, 3) := by decide +kernel
theorem dX9_form_5 : decode cX9_form 5 = .ok (.aload_n 0, 1) := by decide +kernel
theorem dX9_form_6 : decode cX9_form 6 = .ok (.iload_n 2, 1) := by decide +kernel
theorem dX9_form_7 : decode cX9_form 7 = .ok (.putfield 15, 3) := by decide +kernel
theorem dX9_form_10 : decode cX9_form 10 = .ok (.aload_n 0, 1) := by decide +kernel
theorem dX9_form_11 : decode cX9_form 11 = .ok (.iload_n 2, 1) := by decide +kernel
theorem dX9_form_12 : decode cX9_form 12 = .ok (.putfield 18, 3) := by decide +kernel
theorem dX9_form_15 : decode cX9_form 15 = .ok (.aload_n 0, 1) := by decide +kernel
theorem dX9_form_16 : decode cX9_form 16 = .ok (.iconst (-1), 1) := by decide +kernel
theorem dX9_form_17 : decode cX9_form 17 = .ok (.putfield 21, 3) := by decide +kernel
theorem dX9_form_20 : decode cX9_form 20 = .ok (.aload_n 0, 1) := by decide +kernel
theorem dX9_form_21 : decode cX9_form 21 = .ok (.iload_n 3, 1) := by decide +kernel
theorem dX9_form_22 : decode cX9_form 22 = .ok (.putfield 24, 3) := by decide +kernel
theorem dX9_form_25 : decode cX9_form 25 = .ok (.aload_n 0, 1) := by decide +kernel
theorem dX9_form_26 : decode cX9_form 26 = .ok (.iload 4, 2) := by decide +kernel
theorem dX9_form_28 : decode cX9_form 28 = .ok (.putfield 27, 3) := by decide +kernel
theorem dX9_form_31 : decode cX9_form 31 = .ok (.aload_n 0, 1) := by decide +kernel
theorem dX9_form_32 : decode cX9_form 32 = .ok (.iload 5, 2) := by decide +kernel
theorem dX9_form_34 : decode cX9_form 34 = .ok (.putfield 30, 3) := by decide +kernel
theorem dX9_form_37 : decode cX9_form 37 = .ok (.aload_n 0, 1) := by decide +kernel
theorem dX9_form_38 : decode cX9_form 38 = .ok (.iload 6, 2) := by decide +kernel
theorem dX9_form_40 : decode cX9_form 40 = .ok (.putfield 33, 3) := by decide +kernel
theorem dX9_form_43 : decode cX9_form 43 = .ok (.aload_n 0, 1) := by decide +kernel
theorem dX9_form_44 : decode cX9_form 44 = .ok (.iload 7, 2) := by decide +kernel
theorem dX9_form_46 : decode cX9_form 46 = .ok (.putfield 36, 3) := by decide +kernel
theorem dX9_form_49 : decode cX9_form 49 = .ok (.return_, 1) := by decide +kernel
theorem dX10_init_0 : decode cX10_init 0 = .ok (.aload_n 0, 1) := by decide +kernel
theorem dX10_init_1 : decode cX10_init 1 = .ok (.invokespecial 3, 3) := by decide +kernel
theorem dX10_init_4 : decode cX10_init 4 = .ok (.aload_n 0, 1) := by decide +kernel
theorem dX10_init_5 : decode cX10_init 5 = .ok (.bipush 80, 2) := by decide +kernel
theorem dX10_init_7 : decode cX10_init 7 = .ok (.newarray .int, 2) := by decide +kernel
theorem dX10_init_9 : decode cX10_init 9 = .ok (.putfield 11, 3) := by decide +kernel
theorem dX10_init_12 : decode cX10_init 12 = .ok (.aload_n 0, 1) := by decide +kernel
theorem dX10_init_13 : decode cX10_init 13 = .ok (.bipush 80, 2) := by decide +kernel
theorem dX10_init_15 : decode cX10_init 15 = .ok (.newarray .int, 2) := by decide +kernel
theorem dX10_init_17 : decode cX10_init 17 = .ok (.putfield 15, 3) := by decide +kernel
theorem dX10_init_20 : decode cX10_init 20 = .ok (.aload_n 0, 1) := by decide +kernel
theorem dX10_init_21 : decode cX10_init 21 = .ok (.bipush 80, 2) := by decide +kernel
theorem dX10_init_23 : decode cX10_init 23 = .ok (.newarray .int, 2) := by decide +kernel
theorem dX10_init_25 : decode cX10_init 25 = .ok (.putfield 18, 3) := by decide +kernel
theorem dX10_init_28 : decode cX10_init 28 = .ok (.aload_n 0, 1) := by decide +kernel
theorem dX10_init_29 : decode cX10_init 29 = .ok (.bipush 80, 2) := by decide +kernel
theorem dX10_init_31 : decode cX10_init 31 = .ok (.newarray .int, 2) := by decide +kernel
theorem dX10_init_33 : decode cX10_init 33 = .ok (.putfield 21, 3) := by decide +kernel
theorem dX10_init_36 : decode cX10_init 36 = .ok (.aload_n 0, 1) := by decide +kernel
theorem dX10_init_37 : decode cX10_init 37 = .ok (.bipush 80, 2) := by decide +kernel
theorem dX10_init_39 : decode cX10_init 39 = .ok (.newarray .boolean, 2) := by decide +kernel
theorem dX10_init_41 : decode cX10_init 41 = .ok (.putfield 24, 3) := by decide +kernel
theorem dX10_init_44 : decode cX10_init 44 = .ok (.aload_n 0, 1) := by decide +kernel
theorem dX10_init_45 : decode cX10_init 45 = .ok (.bipush 6, 2) := by decide +kernel
theorem dX10_init_47 : decode cX10_init 47 = .ok (.newarray .int, 2) := by decide +kernel
theorem dX10_init_49 : decode cX10_init 49 = .ok (.putfield 28, 3) := by decide +kernel
theorem dX10_init_52 : decode cX10_init 52 = .ok (.aload_n 0, 1) := by decide +kernel
theorem dX10_init_53 : decode cX10_init 53 = .ok (.aload_n 1, 1) := by decide +kernel
theorem dX10_init_54 : decode cX10_init 54 = .ok (.putfield 31, 3) := by decide +kernel
theorem dX10_init_57 : decode cX10_init 57 = .ok (.aload_n 0, 1) := by decide +kernel
theorem dX10_init_58 : decode cX10_init 58 = .ok (.aload_n 2, 1) := by decide +kernel
theorem dX10_init_59 : decode cX10_init 59 = .ok (.putfield 35, 3) := by decide +kernel
theorem dX10_init_62 : decode cX10_init 62 = .ok (.return_, 1) := by decide +kernel
theorem dX10_note_0 : decode cX10_note 0 = .ok (.aload_n 0, 1) := by decide +kernel
theorem dX10_note_1 : decode cX10_note 1 = .ok (.getfield 39, 3) := by decide +kernel
theorem dX10_note_4 : decode cX10_note 4 = .ok (.bipush 80, 2) := by decide +kernel
theorem dX10_note_6 : decode cX10_note 6 = .ok (.if_icmp .lt 5, 3) := by decide +kernel
theorem dX10_note_9 : decode cX10_note 9 = .ok (.iconst (-1), 1) := by decide +kernel
theorem dX10_note_10 : decode cX10_note 10 = .ok (.ireturn, 1) := by decide +kernel
theorem dX10_note_11 : decode cX10_note 11 = .ok (.aload_n 0, 1) := by decide +kernel
theorem dX10_note_12 : decode cX10_note 12 = .ok (.getfield 11, 3) := by decide +kernel
theorem dX10_note_15 : decode cX10_note 15 = .ok (.aload_n 0, 1) := by decide +kernel
theorem dX10_note_16 : decode cX10_note 16 = .ok (.getfield 39, 3) := by decide +kernel
theorem dX10_note_19 : decode cX10_note 19 = .ok (.iload_n 1, 1) := by decide +kernel
theorem dX10_note_20 : decode cX10_note 20 = .ok (.iastore, 1) := by decide +kernel
theorem dX10_note_21 : decode cX10_note 21 = .ok (.aload_n 0, 1) := by decide +kernel
theorem dX10_note_22 : decode cX10_note 22 = .ok (.getfield 15, 3) := by decide +kernel
theorem dX10_note_25 : decode cX10_note 25 = .ok (.aload_n 0, 1) := by decide +kernel
theorem dX10_note_26 : decode cX10_note 26 = .ok (.getfield 39, 3) := by decide +kernel
theorem dX10_note_29 : decode cX10_note 29 = .ok (.iload_n 2, 1) := by decide +kernel
theorem dX10_note_30 : decode cX10_note 30 = .ok (.iastore, 1) := by decide +kernel
theorem dX10_note_31 : decode cX10_note 31 = .ok (.aload_n 0, 1) := by decide +kernel
theorem dX10_note_32 : decode cX10_note 32 = .ok (.getfield 18, 3) := by decide +kernel
theorem dX10_note_35 : decode cX10_note 35 = .ok (.aload_n 0, 1) := by decide +kernel
theorem dX10_note_36 : decode cX10_note 36 = .ok (.getfield 39, 3) := by decide +kernel
theorem dX10_note_39 : decode cX10_note 39 = .ok (.iload_n 3, 1) := by decide +kernel
theorem dX10_note_40 : decode cX10_note 40 = .ok (.iastore, 1) := by decide +kernel
theorem dX10_note_41 : decode cX10_note 41 = .ok (.aload_n 0, 1) := by decide +kernel
theorem dX10_note_42 : decode cX10_note 42 = .ok (.getfield 21, 3) := by decide +kernel
theorem dX10_note_45 : decode cX10_note 45 = .ok (.aload_n 0, 1) := by decide +kernel
theorem dX10_note_46 : decode cX10_note 46 = .ok (.getfield 39, 3) := by decide +kernel
theorem dX10_note_49 : decode cX10_note 49 = .ok (.iload 4, 2) := by decide +kernel
theorem dX10_note_51 : decode cX10_note 51 = .ok (.iastore, 1) := by decide +kernel
theorem dX10_note_52 : decode cX10_note 52 = .ok (.aload_n 0, 1) := by decide +kernel
theorem dX10_note_53 : decode cX10_note 53 = .ok (.dup, 1) := by decide +kernel
theorem dX10_note_54 : decode cX10_note 54 = .ok (.getfield 39, 3) := by decide +kernel
theorem dX10_note_57 : decode cX10_note 57 = .ok (.iconst 1, 1) := by decide +kernel
theorem dX10_note_58 : decode cX10_note 58 = .ok (.iadd, 1) := by decide +kernel
theorem dX10_note_59 : decode cX10_note 59 = .ok (.putfield 39, 3) := by decide +kernel
theorem dX10_note_62 : decode cX10_note 62 = .ok (.aload_n 0, 1) := by decide +kernel
theorem dX10_note_63 : decode cX10_note 63 = .ok (.getfield 39, 3) := by decide +kernel
theorem dX10_note_66 : decode cX10_note 66 = .ok (.iconst 1, 1) := by decide +kernel
theorem dX10_note_67 : decode cX10_note 67 = .ok (.isub, 1) := by decide +kernel
theorem dX10_note_68 : decode cX10_note 68 = .ok (.ireturn, 1) := by decide +kernel
theorem dX10_markStruck_0 : decode cX10_markStruck 0 = .ok (.iconst 0, 1) := by decide +kernel
theorem dX10_markStruck_1 : decode cX10_markStruck 1 = .ok (.istore_n 2, 1) := by decide +kernel
theorem dX10_markStruck_2 : decode cX10_markStruck 2 = .ok (.iload_n 2, 1) := by decide +kernel
theorem dX10_markStruck_3 : decode cX10_markStruck 3 = .ok (.aload_n 0, 1) := by decide +kernel
theorem dX10_markStruck_4 : decode cX10_markStruck 4 = .ok (.getfield 39, 3) := by decide +kernel
theorem dX10_markStruck_7 : decode cX10_markStruck 7 = .ok (.if_icmp .ge 16, 3) := by decide +kernel
theorem dX10_markStruck_10 : decode cX10_markStruck 10 = .ok (.aload_n 0, 1) := by decide +kernel
theorem dX10_markStruck_11 : decode cX10_markStruck 11 = .ok (.getfield 24, 3) := by decide +kernel
theorem dX10_markStruck_14 : decode cX10_markStruck 14 = .ok (.iload_n 2, 1) := by decide +kernel
theorem dX10_markStruck_15 : decode cX10_markStruck 15 = .ok (.iconst 0, 1) := by decide +kernel
theorem dX10_markStruck_16 : decode cX10_markStruck 16 = .ok (.bastore, 1) := by decide +kernel
theorem dX10_markStruck_17 : decode cX10_markStruck 17 = .ok (.iinc 2 1, 3) := by decide +kernel
theorem dX10_markStruck_20 : decode cX10_markStruck 20 = .ok (.goto (-18), 3) := by decide +kernel
theorem dX10_markStruck_23 : decode cX10_markStruck 23 = .ok (.aload_n 0, 1) := by decide +kernel
theorem dX10_markStruck_24 : decode cX10_markStruck 24 = .ok (.getfield 39, 3) := by decide +kernel
theorem dX10_markStruck_27 : decode cX10_markStruck 27 = .ok (.iconst 1, 1) := by decide +kernel
theorem dX10_markStruck_28 : decode cX10_markStruck 28 = .ok (.isub, 1) := by decide +kernel
theorem dX10_markStruck_29 : decode cX10_markStruck 29 = .ok (.istore_n 2, 1) := by decide +kernel
theorem dX10_markStruck_30 : decode cX10_markStruck 30 = .ok (.iload_n 2, 1) := by decide +kernel
theorem dX10_markStruck_31 : decode cX10_markStruck 31 = .ok (.ifCond .lt 50, 3) := by decide +kernel
theorem dX10_markStruck_34 : decode cX10_markStruck 34 = .ok (.aload_n 0, 1) := by decide +kernel
theorem dX10_markStruck_35 : decode cX10_markStruck 35 = .ok (.getfield 11, 3) := by decide +kernel
theorem dX10_markStruck_38 : decode cX10_markStruck 38 = .ok (.iload_n 2, 1) := by decide +kernel
theorem dX10_markStruck_39 : decode cX10_markStruck 39 = .ok (.iaload, 1) := by decide +kernel
theorem dX10_markStruck_40 : decode cX10_markStruck 40 = .ok (.iconst (-1), 1) := by decide +kernel
theorem dX10_markStruck_41 : decode cX10_markStruck 41 = .ok (.if_icmp .ne 34, 3) := by decide +kernel
theorem dX10_markStruck_44 : decode cX10_markStruck 44 = .ok (.aload_n 0, 1) := by decide +kernel
theorem dX10_markStruck_45 : decode cX10_markStruck 45 = .ok (.getfield 21, 3) := by decide +kernel
theorem dX10_markStruck_48 : decode cX10_markStruck 48 = .ok (.iload_n 2, 1) := by decide +kernel
theorem dX10_markStruck_49 : decode cX10_markStruck 49 = .ok (.iaload, 1) := by decide +kernel
theorem dX10_markStruck_50 : decode cX10_markStruck 50 = .ok (.iload_n 1, 1) := by decide +kernel
theorem dX10_markStruck_51 : decode cX10_markStruck 51 = .ok (.if_icmp .gt 24, 3) := by decide +kernel
theorem dX10_markStruck_54 : decode cX10_markStruck 54 = .ok (.aload_n 0, 1) := by decide +kernel
theorem dX10_markStruck_55 : decode cX10_markStruck 55 = .ok (.getfield 24, 3) := by decide +kernel
theorem dX10_markStruck_58 : decode cX10_markStruck 58 = .ok (.iload_n 2, 1) := by decide +kernel
theorem dX10_markStruck_59 : decode cX10_markStruck 59 = .ok (.baload, 1) := by decide +kernel
theorem dX10_markStruck_60 : decode cX10_markStruck 60 = .ok (.ifCond .ne 15, 3) := by decide +kernel
theorem dX10_markStruck_63 : decode cX10_markStruck 63 = .ok (.aload_n 0, 1) := by decide +kernel
theorem dX10_markStruck_64 : decode cX10_markStruck 64 = .ok (.getfield 24, 3) := by decide +kernel
theorem dX10_markStruck_67 : decode cX10_markStruck 67 = .ok (.aload_n 0, 1) := by decide +kernel
theorem dX10_markStruck_68 : decode cX10_markStruck 68 = .ok (.getfield 18, 3) := by decide +kernel
theorem dX10_markStruck_71 : decode cX10_markStruck 71 = .ok (.iload_n 2, 1) := by decide +kernel
theorem dX10_markStruck_72 : decode cX10_markStruck 72 = .ok (.iaload, 1) := by decide +kernel
theorem dX10_markStruck_73 : decode cX10_markStruck 73 = .ok (.iconst 1, 1) := by decide +kernel
theorem dX10_markStruck_74 : decode cX10_markStruck 74 = .ok (.bastore, 1) := by decide +kernel
theorem dX10_markStruck_75 : decode cX10_markStruck 75 = .ok (.iinc 2 (-1), 3) := by decide +kernel
theorem dX10_markStruck_78 : decode cX10_markStruck 78 = .ok (.goto (-48), 3) := by decide +kernel
theorem dX10_markStruck_81 : decode cX10_markStruck 81 = .ok (.return_, 1) := by decide +kernel
theorem dX10_wheelsKnownTo_0 : decode cX10_wheelsKnownTo 0 = .ok (.iconst 0, 1) := by decide +kernel
theorem dX10_wheelsKnownTo_1 : decode cX10_wheelsKnownTo 1 = .ok (.istore_n 3, 1) := by decide +kernel
theorem dX10_wheelsKnownTo_2 : decode cX10_wheelsKnownTo 2 = .ok (.iconst 0, 1) := by decide +kernel
theorem dX10_wheelsKnownTo_3 : decode cX10_wheelsKnownTo 3 = .ok (.istore 4, 2) := by decide +kernel
theorem dX10_wheelsKnownTo_5 : decode cX10_wheelsKnownTo 5 = .ok (.iload 4, 2) := by decide +kernel
theorem dX10_wheelsKnownTo_7 : decode cX10_wheelsKnownTo 7 = .ok (.aload_n 0, 1) := by decide +kernel
theorem dX10_wheelsKnownTo_8 : decode cX10_wheelsKnownTo 8 = .ok (.getfield 31, 3) := by decide +kernel
theorem dX10_wheelsKnownTo_11 : decode cX10_wheelsKnownTo 11 = .ok (.getfield 43, 3) := by decide +kernel
theorem dX10_wheelsKnownTo_14 : decode cX10_wheelsKnownTo 14 = .ok (.getfield 49, 3) := by decide +kernel
theorem dX10_wheelsKnownTo_17 : decode cX10_wheelsKnownTo 17 = .ok (.if_icmp .ge 27, 3) := by decide +kernel
theorem dX10_wheelsKnownTo_20 : decode cX10_wheelsKnownTo 20 = .ok (.aload_n 0, 1) := by decide +kernel
theorem dX10_wheelsKnownTo_21 : decode cX10_wheelsKnownTo 21 = .ok (.iload_n 1, 1) := by decide +kernel
theorem dX10_wheelsKnownTo_22 : decode cX10_wheelsKnownTo 22 = .ok (.iload 4, 2) := by decide +kernel
theorem dX10_wheelsKnownTo_24 : decode cX10_wheelsKnownTo 24 = .ok (.iload_n 2, 1) := by decide +kernel
theorem dX10_wheelsKnownTo_25 : decode cX10_wheelsKnownTo 25 = .ok (.invokevirtual 52, 3) := by decide +kernel
theorem dX10_wheelsKnownTo_28 : decode cX10_wheelsKnownTo 28 = .ok (.ifCond .eq 10, 3) := by decide +kernel
theorem dX10_wheelsKnownTo_31 : decode cX10_wheelsKnownTo 31 = .ok (.iload_n 3, 1) := by decide +kernel
theorem dX10_wheelsKnownTo_32 : decode cX10_wheelsKnownTo 32 = .ok (.iconst 1, 1) := by decide +kernel
theorem dX10_wheelsKnownTo_33 : decode cX10_wheelsKnownTo 33 = .ok (.iload 4, 2) := by decide +kernel
theorem dX10_wheelsKnownTo_35 : decode cX10_wheelsKnownTo 35 = .ok (.ishl, 1) := by decide +kernel
theorem dX10_wheelsKnownTo_36 : decode cX10_wheelsKnownTo 36 = .ok (.ior, 1) := by decide +kernel
theorem dX10_wheelsKnownTo_37 : decode cX10_wheelsKnownTo 37 = .ok (.istore_n 3, 1) := by decide +kernel
theorem dX10_wheelsKnownTo_38 : decode cX10_wheelsKnownTo 38 = .ok (.iinc 4 1, 3) := by decide +kernel
theorem dX10_wheelsKnownTo_41 : decode cX10_wheelsKnownTo 41 = .ok (.goto (-36), 3) := by decide +kernel
theorem dX10_wheelsKnownTo_44 : decode cX10_wheelsKnownTo 44 = .ok (.iload_n 3, 1) := by decide +kernel
theorem dX10_wheelsKnownTo_45 : decode cX10_wheelsKnownTo 45 = .ok (.ireturn, 1) := by decide +kernel
theorem dX10_isKnownTo_0 : decode cX10_isKnownTo 0 = .ok (.aload_n 0, 1) := by decide +kernel
theorem dX10_isKnownTo_1 : decode cX10_isKnownTo 1 = .ok (.getfield 39, 3) := by decide +kernel
theorem dX10_isKnownTo_4 : decode cX10_isKnownTo 4 = .ok (.iconst 1, 1) := by decide +kernel
theorem dX10_isKnownTo_5 : decode cX10_isKnownTo 5 = .ok (.isub, 1) := by decide +kernel
theorem dX10_isKnownTo_6 : decode cX10_isKnownTo 6 = .ok (.istore 4, 2) := by decide +kernel
theorem dX10_isKnownTo_8 : decode cX10_isKnownTo 8 = .ok (.iload 4, 2) := by decide +kernel
theorem dX10_isKnownTo_10 : decode cX10_isKnownTo 10 = .ok (.ifCond .lt 85, 3) := by decide +kernel
theorem dX10_isKnownTo_13 : decode cX10_isKnownTo 13 = .ok (.aload_n 0, 1) := by decide +kernel
theorem dX10_isKnownTo_14 : decode cX10_isKnownTo 14 = .ok (.getfield 11, 3) := by decide +kernel
theorem dX10_isKnownTo_17 : decode cX10_isKnownTo 17 = .ok (.iload 4, 2) := by decide +kernel
theorem dX10_isKnownTo_19 : decode cX10_isKnownTo 19 = .ok (.iaload, 1) := by decide +kernel
theorem dX10_isKnownTo_20 : decode cX10_isKnownTo 20 = .ok (.iload_n 1, 1) := by decide +kernel
theorem dX10_isKnownTo_21 : decode cX10_isKnownTo 21 = .ok (.if_icmp .ne 68, 3) := by decide +kernel
theorem dX10_isKnownTo_24 : decode cX10_isKnownTo 24 = .ok (.aload_n 0, 1) := by decide +kernel
theorem dX10_isKnownTo_25 : decode cX10_isKnownTo 25 = .ok (.getfield 15, 3) := by decide +kernel
theorem dX10_isKnownTo_28 : decode cX10_isKnownTo 28 = .ok (.iload 4, 2) := by decide +kernel
theorem dX10_isKnownTo_30 : decode cX10_isKnownTo 30 = .ok (.iaload, 1) := by decide +kernel
theorem dX10_isKnownTo_31 : decode cX10_isKnownTo 31 = .ok (.iload_n 2, 1) := by decide +kernel
theorem dX10_isKnownTo_32 : decode cX10_isKnownTo 32 = .ok (.if_icmp .ne 57, 3) := by decide +kernel
theorem dX10_isKnownTo_35 : decode cX10_isKnownTo 35 = .ok (.aload_n 0, 1) := by decide +kernel
theorem dX10_isKnownTo_36 : decode cX10_isKnownTo 36 = .ok (.getfield 21, 3) := by decide +kernel
theorem dX10_isKnownTo_39 : decode cX10_isKnownTo 39 = .ok (.iload 4, 2) := by decide +kernel
theorem dX10_isKnownTo_41 : decode cX10_isKnownTo 41 = .ok (.iaload, 1) := by decide +kernel
theorem dX10_isKnownTo_42 : decode cX10_isKnownTo 42 = .ok (.iload_n 3, 1) := by decide +kernel
theorem dX10_isKnownTo_43 : decode cX10_isKnownTo 43 = .ok (.if_icmp .gt 46, 3) := by decide +kernel
theorem dX10_isKnownTo_46 : decode cX10_isKnownTo 46 = .ok (.aload_n 0, 1) := by decide +kernel
theorem dX10_isKnownTo_47 : decode cX10_isKnownTo 47 = .ok (.getfield 24, 3) := by decide +kernel
theorem dX10_isKnownTo_50 : decode cX10_isKnownTo 50 = .ok (.iload 4, 2) := by decide +kernel
theorem dX10_isKnownTo_52 : decode cX10_isKnownTo 52 = .ok (.baload, 1) := by decide +kernel
theorem dX10_isKnownTo_53 : decode cX10_isKnownTo 53 = .ok (.ifCond .ne 36, 3) := by decide +kernel
theorem dX10_isKnownTo_56 : decode cX10_isKnownTo 56 = .ok (.aload_n 0, 1) := by decide +kernel
theorem dX10_isKnownTo_57 : decode cX10_isKnownTo 57 = .ok (.getfield 18, 3) := by decide +kernel
theorem dX10_isKnownTo_60 : decode cX10_isKnownTo 60 = .ok (.iload 4, 2) := by decide +kernel
theorem dX10_isKnownTo_62 : decode cX10_isKnownTo 62 = .ok (.iaload, 1) := by decide +kernel
theorem dX10_isKnownTo_63 : decode cX10_isKnownTo 63 = .ok (.iconst (-1), 1) := by decide +kernel
theorem dX10_isKnownTo_64 : decode cX10_isKnownTo 64 = .ok (.if_icmp .eq 23, 3) := by decide +kernel
theorem dX10_isKnownTo_67 : decode cX10_isKnownTo 67 = .ok (.aload_n 0, 1) := by decide +kernel
theorem dX10_isKnownTo_68 : decode cX10_isKnownTo 68 = .ok (.aload_n 0, 1) := by decide +kernel
theorem dX10_isKnownTo_69 : decode cX10_isKnownTo 69 = .ok (.getfield 18, 3) := by decide +kernel
theorem dX10_isKnownTo_72 : decode cX10_isKnownTo 72 = .ok (.iload 4, 2) := by decide +kernel
theorem dX10_isKnownTo_74 : decode cX10_isKnownTo 74 = .ok (.iaload, 1) := by decide +kernel
theorem dX10_isKnownTo_75 : decode cX10_isKnownTo 75 = .ok (.iload_n 2, 1) := by decide +kernel
theorem dX10_isKnownTo_76 : decode cX10_isKnownTo 76 = .ok (.iload_n 3, 1) := by decide +kernel
theorem dX10_isKnownTo_77 : decode cX10_isKnownTo 77 = .ok (.invokevirtual 56, 3) := by decide +kernel
theorem dX10_isKnownTo_80 : decode cX10_isKnownTo 80 = .ok (.ifCond .eq 7, 3) := by decide +kernel
theorem dX10_isKnownTo_83 : decode cX10_isKnownTo 83 = .ok (.iconst 1, 1) := by decide +kernel
theorem dX10_isKnownTo_84 : decode cX10_isKnownTo 84 = .ok (.goto 4, 3) := by decide +kernel
theorem dX10_isKnownTo_87 : decode cX10_isKnownTo 87 = .ok (.iconst 0, 1) := by decide +kernel
theorem dX10_isKnownTo_88 : decode cX10_isKnownTo 88 = .ok (.ireturn, 1) := by decide +kernel
theorem dX10_isKnownTo_89 : decode cX10_isKnownTo 89 = .ok (.iinc 4 (-1), 3) := by decide +kernel
theorem dX10_isKnownTo_92 : decode cX10_isKnownTo 92 = .ok (.goto (-84), 3) := by decide +kernel
theorem dX10_isKnownTo_95 : decode cX10_isKnownTo 95 = .ok (.iconst 0, 1) := by decide +kernel
theorem dX10_isKnownTo_96 : decode cX10_isKnownTo 96 = .ok (.ireturn, 1) := by decide +kernel
theorem dX10_isNearGate_0 : decode cX10_isNearGate 0 = .ok (.aload_n 0, 1) := by decide +kernel
theorem dX10_isNearGate_1 : decode cX10_isNearGate 1 = .ok (.getfield 31, 3) := by decide +kernel
theorem dX10_isNearGate_4 : decode cX10_isNearGate 4 = .ok (.getfield 59, 3) := by decide +kernel
theorem dX10_isNearGate_7 : decode cX10_isNearGate 7 = .ok (.iload_n 2, 1) := by decide +kernel
theorem dX10_isNearGate_8 : decode cX10_isNearGate 8 = .ok (.aaload, 1) := by decide +kernel
theorem dX10_isNearGate_9 : decode cX10_isNearGate 9 = .ok (.astore 4, 2) := by decide +kernel
theorem dX10_isNearGate_11 : decode cX10_isNearGate 11 = .ok (.aload_n 0, 1) := by decide +kernel
theorem dX10_isNearGate_12 : decode cX10_isNearGate 12 = .ok (.getfield 35, 3) := by decide +kernel
theorem dX10_isNearGate_15 : decode cX10_isNearGate 15 = .ok (.iload_n 3, 1) := by decide +kernel
theorem dX10_isNearGate_16 : decode cX10_isNearGate 16 = .ok (.iload_n 2, 1) := by decide +kernel
theorem dX10_isNearGate_17 : decode cX10_isNearGate 17 = .ok (.aload 4, 2) := by decide +kernel
theorem dX10_isNearGate_19 : decode cX10_isNearGate 19 = .ok (.getfield 62, 3) := by decide +kernel
theorem dX10_isNearGate_22 : decode cX10_isNearGate 22 = .ok (.invokevirtual 67, 3) := by decide +kernel
theorem dX10_isNearGate_25 : decode cX10_isNearGate 25 = .ok (.istore 5, 2) := by decide +kernel
theorem dX10_isNearGate_27 : decode cX10_isNearGate 27 = .ok (.aload_n 0, 1) := by decide +kernel
theorem dX10_isNearGate_28 : decode cX10_isNearGate 28 = .ok (.getfield 31, 3) := by decide +kernel
theorem dX10_isNearGate_31 : decode cX10_isNearGate 31 = .ok (.getfield 43, 3) := by decide +kernel
theorem dX10_isNearGate_34 : decode cX10_isNearGate 34 = .ok (.iload_n 1, 1) := by decide +kernel
theorem dX10_isNearGate_35 : decode cX10_isNearGate 35 = .ok (.iload 5, 2) := by decide +kernel
theorem dX10_isNearGate_37 : decode cX10_isNearGate 37 = .ok (.invokevirtual 73, 3) := by decide +kernel
theorem dX10_isNearGate_40 : decode cX10_isNearGate 40 = .ok (.aload 4, 2) := by decide +kernel
theorem dX10_isNearGate_42 : decode cX10_isNearGate 42 = .ok (.getfield 77, 3) := by decide +kernel
theorem dX10_isNearGate_45 : decode cX10_isNearGate 45 = .ok (.if_icmp .gt 7, 3) := by decide +kernel
theorem dX10_isNearGate_48 : decode cX10_isNearGate 48 = .ok (.iconst 1, 1) := by decide +kernel
theorem dX10_isNearGate_49 : decode cX10_isNearGate 49 = .ok (.goto 4, 3) := by decide +kernel
theorem dX10_isNearGate_52 : decode cX10_isNearGate 52 = .ok (.iconst 0, 1) := by decide +kernel
theorem dX10_isNearGate_53 : decode cX10_isNearGate 53 = .ok (.ireturn, 1) := by decide +kernel
theorem dX10_fewestWhoCan_0 : decode cX10_fewestWhoCan 0 = .ok (.iconst 0, 1) := by decide +kernel
theorem dX10_fewestWhoCan_1 : decode cX10_fewestWhoCan 1 = .ok (.istore_n 2, 1) := by decide +kernel
theorem dX10_fewestWhoCan_2 : decode cX10_fewestWhoCan 2 = .ok (.iload_n 2, 1) := by decide +kernel
theorem dX10_fewestWhoCan_3 : decode cX10_fewestWhoCan 3 = .ok (.bipush 6, 2) := by decide +kernel
theorem dX10_fewestWhoCan_5 : decode cX10_fewestWhoCan 5 = .ok (.if_icmp .ge 21, 3) := by decide +kernel
theorem dX10_fewestWhoCan_8 : decode cX10_fewestWhoCan 8 = .ok (.aload_n 0, 1) := by decide +kernel
theorem dX10_fewestWhoCan_9 : decode cX10_fewestWhoCan 9 = .ok (.getfield 28, 3) := by decide +kernel
theorem dX10_fewestWhoCan_12 : decode cX10_fewestWhoCan 12 = .ok (.iload_n 2, 1) := by decide +kernel
theorem dX10_fewestWhoCan_13 : decode cX10_fewestWhoCan 13 = .ok (.aload_n 0, 1) := by decide +kernel
theorem dX10_fewestWhoCan_14 : decode cX10_fewestWhoCan 14 = .ok (.iload_n 2, 1) := by decide +kernel
theorem dX10_fewestWhoCan_15 : decode cX10_fewestWhoCan 15 = .ok (.iload_n 1, 1) := by decide +kernel
theorem dX10_fewestWhoCan_16 : decode cX10_fewestWhoCan 16 = .ok (.invokevirtual 80, 3) := by decide +kernel
theorem dX10_fewestWhoCan_19 : decode cX10_fewestWhoCan 19 = .ok (.iastore, 1) := by decide +kernel
theorem dX10_fewestWhoCan_20 : decode cX10_fewestWhoCan 20 = .ok (.iinc 2 1, 3) := by decide +kernel
theorem dX10_fewestWhoCan_23 : decode cX10_fewestWhoCan 23 = .ok (.goto (-21), 3) := by decide +kernel
theorem dX10_fewestWhoCan_26 : decode cX10_fewestWhoCan 26 = .ok (.iconst 1, 1) := by decide +kernel
theorem dX10_fewestWhoCan_27 : decode cX10_fewestWhoCan 27 = .ok (.aload_n 0, 1) := by decide +kernel
theorem dX10_fewestWhoCan_28 : decode cX10_fewestWhoCan 28 = .ok (.getfield 31, 3) := by decide +kernel
theorem dX10_fewestWhoCan_31 : decode cX10_fewestWhoCan 31 = .ok (.getfield 43, 3) := by decide +kernel
theorem dX10_fewestWhoCan_34 : decode cX10_fewestWhoCan 34 = .ok (.getfield 49, 3) := by decide +kernel
theorem dX10_fewestWhoCan_37 : decode cX10_fewestWhoCan 37 = .ok (.ishl, 1) := by decide +kernel
theorem dX10_fewestWhoCan_38 : decode cX10_fewestWhoCan 38 = .ok (.iconst 1, 1) := by decide +kernel
theorem dX10_fewestWhoCan_39 : decode cX10_fewestWhoCan 39 = .ok (.isub, 1) := by decide +kernel
theorem dX10_fewestWhoCan_40 : decode cX10_fewestWhoCan 40 = .ok (.istore_n 2, 1) := by decide +kernel
theorem dX10_fewestWhoCan_41 : decode cX10_fewestWhoCan 41 = .ok (.iconst 0, 1) := by decide +kernel
theorem dX10_fewestWhoCan_42 : decode cX10_fewestWhoCan 42 = .ok (.istore_n 3, 1) := by decide +kernel
theorem dX10_fewestWhoCan_43 : decode cX10_fewestWhoCan 43 = .ok (.iconst 1, 1) := by decide +kernel
theorem dX10_fewestWhoCan_44 : decode cX10_fewestWhoCan 44 = .ok (.istore 4, 2) := by decide +kernel
theorem dX10_fewestWhoCan_46 : decode cX10_fewestWhoCan 46 = .ok (.iload 4, 2) := by decide +kernel
theorem dX10_fewestWhoCan_48 : decode cX10_fewestWhoCan 48 = .ok (.bipush 64, 2) := by decide +kernel
theorem dX10_fewestWhoCan_50 : decode cX10_fewestWhoCan 50 = .ok (.if_icmp .ge 54, 3) := by decide +kernel
theorem dX10_fewestWhoCan_53 : decode cX10_fewestWhoCan 53 = .ok (.iload_n 2, 1) := by decide +kernel
theorem dX10_fewestWhoCan_54 : decode cX10_fewestWhoCan 54 = .ok (.ifCond .eq 50, 3) := by decide +kernel
theorem dX10_fewestWhoCan_57 : decode cX10_fewestWhoCan 57 = .ok (.iload_n 3, 1) := by decide +kernel
theorem dX10_fewestWhoCan_58 : decode cX10_fewestWhoCan 58 = .ok (.ifCond .eq 15, 3) := by decide +kernel
theorem dX10_fewestWhoCan_61 : decode cX10_fewestWhoCan 61 = .ok (.iload 4, 2) := by decide +kernel
theorem dX10_fewestWhoCan_63 : decode cX10_fewestWhoCan 63 = .ok (.invokestatic 83, 3) := by decide +kernel
theorem dX10_fewestWhoCan_66 : decode cX10_fewestWhoCan 66 = .ok (.iload_n 3, 1) := by decide +kernel
theorem dX10_fewestWhoCan_67 : decode cX10_fewestWhoCan 67 = .ok (.invokestatic 83, 3) := by decide +kernel
theorem dX10_fewestWhoCan_70 : decode cX10_fewestWhoCan 70 = .ok (.if_icmp .ge 7, 3) := by decide +kernel
theorem dX10_fewestWhoCan_73 : decode cX10_fewestWhoCan 73 = .ok (.iconst 1, 1) := by decide +kernel
theorem dX10_fewestWhoCan_74 : decode cX10_fewestWhoCan 74 = .ok (.goto 4, 3) := by decide +kernel
theorem dX10_fewestWhoCan_77 : decode cX10_fewestWhoCan 77 = .ok (.iconst 0, 1) := by decide +kernel
theorem dX10_fewestWhoCan_78 : decode cX10_fewestWhoCan 78 = .ok (.istore 5, 2) := by decide +kernel
theorem dX10_fewestWhoCan_80 : decode cX10_fewestWhoCan 80 = .ok (.iload 5, 2) := by decide +kernel
theorem dX10_fewestWhoCan_82 : decode cX10_fewestWhoCan 82 = .ok (.ifCond .eq 16, 3) := by decide +kernel
theorem dX10_fewestWhoCan_85 : decode cX10_fewestWhoCan 85 = .ok (.aload_n 0, 1) := by decide +kernel
theorem dX10_fewestWhoCan_86 : decode cX10_fewestWhoCan 86 = .ok (.iload 4, 2) := by decide +kernel
theorem dX10_fewestWhoCan_88 : decode cX10_fewestWhoCan 88 = .ok (.invokevirtual 89, 3) := by decide +kernel
theorem dX10_fewestWhoCan_91 : decode cX10_fewestWhoCan 91 = .ok (.iload_n 2, 1) := by decide +kernel
theorem dX10_fewestWhoCan_92 : decode cX10_fewestWhoCan 92 = .ok (.if_icmp .ne 6, 3) := by decide +kernel
theorem dX10_fewestWhoCan_95 : decode cX10_fewestWhoCan 95 = .ok (.iload 4, 2) := by decide +kernel
theorem dX10_fewestWhoCan_97 : decode cX10_fewestWhoCan 97 = .ok (.istore_n 3, 1) := by decide +kernel
theorem dX10_fewestWhoCan_98 : decode cX10_fewestWhoCan 98 = .ok (.iinc 4 1, 3) := by decide +kernel
theorem dX10_fewestWhoCan_101 : decode cX10_fewestWhoCan 101 = .ok (.goto (-55), 3) := by decide +kernel
theorem dX10_fewestWhoCan_104 : decode cX10_fewestWhoCan 104 = .ok (.iload_n 3, 1) := by decide +kernel
theorem dX10_fewestWhoCan_105 : decode cX10_fewestWhoCan 105 = .ok (.ireturn, 1) := by decide +kernel
theorem dX10_wheelsKnownToAll_0 : decode cX10_wheelsKnownToAll 0 = .ok (.iconst 0, 1) := by decide +kernel
theorem dX10_wheelsKnownToAll_1 : decode cX10_wheelsKnownToAll 1 = .ok (.istore_n 2, 1) := by decide +kernel
theorem dX10_wheelsKnownToAll_2 : decode cX10_wheelsKnownToAll 2 = .ok (.iconst 0, 1) := by decide +kernel
theorem dX10_wheelsKnownToAll_3 : decode cX10_wheelsKnownToAll 3 = .ok (.istore_n 3, 1) := by decide +kernel
theorem dX10_wheelsKnownToAll_4 : decode cX10_wheelsKnownToAll 4 = .ok (.iload_n 3, 1) := by decide +kernel
theorem dX10_wheelsKnownToAll_5 : decode cX10_wheelsKnownToAll 5 = .ok (.bipush 6, 2) := by decide +kernel
theorem dX10_wheelsKnownToAll_7 : decode cX10_wheelsKnownToAll 7 = .ok (.if_icmp .ge 27, 3) := by decide +kernel
theorem dX10_wheelsKnownToAll_10 : decode cX10_wheelsKnownToAll 10 = .ok (.iload_n 1, 1) := by decide +kernel
theorem dX10_wheelsKnownToAll_11 : decode cX10_wheelsKnownToAll 11 = .ok (.iload_n 3, 1) := by decide +kernel
theorem dX10_wheelsKnownToAll_12 : decode cX10_wheelsKnownToAll 12 = .ok (.ishr, 1) := by decide +kernel
theorem dX10_wheelsKnownToAll_13 : decode cX10_wheelsKnownToAll 13 = .ok (.iconst 1, 1) := by decide +kernel
theorem dX10_wheelsKnownToAll_14 : decode cX10_wheelsKnownToAll 14 = .ok (.iand, 1) := by decide +kernel
theorem dX10_wheelsKnownToAll_15 : decode cX10_wheelsKnownToAll 15 = .ok (.iconst 1, 1) := by decide +kernel
theorem dX10_wheelsKnownToAll_16 : decode cX10_wheelsKnownToAll 16 = .ok (.if_icmp .ne 12, 3) := by decide +kernel
theorem dX10_wheelsKnownToAll_19 : decode cX10_wheelsKnownToAll 19 = .ok (.iload_n 2, 1) := by decide +kernel
theorem dX10_wheelsKnownToAll_20 : decode cX10_wheelsKnownToAll 20 = .ok (.aload_n 0, 1) := by decide +kernel
theorem dX10_wheelsKnownToAll_21 : decode cX10_wheelsKnownToAll 21 = .ok (.getfield 28, 3) := by decide +kernel
theorem dX10_wheelsKnownToAll_24 : decode cX10_wheelsKnownToAll 24 = .ok (.iload_n 3, 1) := by decide +kernel
theorem dX10_wheelsKnownToAll_25 : decode cX10_wheelsKnownToAll 25 = .ok (.iaload, 1) := by decide +kernel
theorem dX10_wheelsKnownToAll_26 : decode cX10_wheelsKnownToAll 26 = .ok (.ior, 1) := by decide +kernel
theorem dX10_wheelsKnownToAll_27 : decode cX10_wheelsKnownToAll 27 = .ok (.istore_n 2, 1) := by decide +kernel
theorem dX10_wheelsKnownToAll_28 : decode cX10_wheelsKnownToAll 28 = .ok (.iinc 3 1, 3) := by decide +kernel
theorem dX10_wheelsKnownToAll_31 : decode cX10_wheelsKnownToAll 31 = .ok (.goto (-27), 3) := by decide +kernel
theorem dX10_wheelsKnownToAll_34 : decode cX10_wheelsKnownToAll 34 = .ok (.iload_n 2, 1) := by decide +kernel
theorem dX10_wheelsKnownToAll_35 : decode cX10_wheelsKnownToAll 35 = .ok (.ireturn, 1) := by decide +kernel
theorem dX11_init_0 : decode cX11_init 0 = .ok (.aload_n 0, 1) := by decide +kernel
theorem dX11_init_1 : decode cX11_init 1 = .ok (.invokespecial 1, 3) := by decide +kernel
theorem dX11_init_4 : decode cX11_init 4 = .ok (.aload_n 0, 1) := by decide +kernel
theorem dX11_init_5 : decode cX11_init 5 = .ok (.sipush 500, 3) := by decide +kernel
theorem dX11_init_8 : decode cX11_init 8 = .ok (.newarray .byte, 2) := by decide +kernel
theorem dX11_init_10 : decode cX11_init 10 = .ok (.putfield 9, 3) := by decide +kernel
theorem dX11_init_13 : decode cX11_init 13 = .ok (.aload_n 0, 1) := by decide +kernel
theorem dX11_init_14 : decode cX11_init 14 = .ok (.new 13, 3) := by decide +kernel
theorem dX11_init_17 : decode cX11_init 17 = .ok (.dup, 1) := by decide +kernel
theorem dX11_init_18 : decode cX11_init 18 = .ok (.invokespecial 15, 3) := by decide +kernel
theorem dX11_init_21 : decode cX11_init 21 = .ok (.putfield 16, 3) := by decide +kernel
theorem dX11_init_24 : decode cX11_init 24 = .ok (.aload_n 0, 1) := by decide +kernel
theorem dX11_init_25 : decode cX11_init 25 = .ok (.new 20, 3) := by decide +kernel
theorem dX11_init_28 : decode cX11_init 28 = .ok (.dup, 1) := by decide +kernel
theorem dX11_init_29 : decode cX11_init 29 = .ok (.invokespecial 22, 3) := by decide +kernel
theorem dX11_init_32 : decode cX11_init 32 = .ok (.putfield 23, 3) := by decide +kernel
theorem dX11_init_35 : decode cX11_init 35 = .ok (.aload_n 0, 1) := by decide +kernel
theorem dX11_init_36 : decode cX11_init 36 = .ok (.new 27, 3) := by decide +kernel
theorem dX11_init_39 : decode cX11_init 39 = .ok (.dup, 1) := by decide +kernel
theorem dX11_init_40 : decode cX11_init 40 = .ok (.invokespecial 29, 3) := by decide +kernel
theorem dX11_init_43 : decode cX11_init 43 = .ok (.putfield 30, 3) := by decide +kernel
theorem dX11_init_46 : decode cX11_init 46 = .ok (.aload_n 0, 1) := by decide +kernel
theorem dX11_init_47 : decode cX11_init 47 = .ok (.new 34, 3) := by decide +kernel
theorem dX11_init_50 : decode cX11_init 50 = .ok (.dup, 1) := by decide +kernel
theorem dX11_init_51 : decode cX11_init 51 = .ok (.aload_n 0, 1) := by decide +kernel
theorem dX11_init_52 : decode cX11_init 52 = .ok (.getfield 16, 3) := by decide +kernel
theorem dX11_init_55 : decode cX11_init 55 = .ok (.aload_n 0, 1) := by decide +kernel
theorem dX11_init_56 : decode cX11_init 56 = .ok (.getfield 23, 3) := by decide +kernel
theorem dX11_init_59 : decode cX11_init 59 = .ok (.aload_n 0, 1) := by decide +kernel
theorem dX11_init_60 : decode cX11_init 60 = .ok (.getfield 30, 3) := by decide +kernel
theorem dX11_init_63 : decode cX11_init 63 = .ok (.invokespecial 36, 3) := by decide +kernel
theorem dX11_init_66 : decode cX11_init 66 = .ok (.putfield 39, 3) := by decide +kernel
theorem dX11_init_69 : decode cX11_init 69 = .ok (.aload_n 0, 1) := by decide +kernel
theorem dX11_init_70 : decode cX11_init 70 = .ok (.new 43, 3) := by decide +kernel
theorem dX11_init_73 : decode cX11_init 73 = .ok (.dup, 1) := by decide +kernel
theorem dX11_init_74 : decode cX11_init 74 = .ok (.aload_n 0, 1) := by decide +kernel
theorem dX11_init_75 : decode cX11_init 75 = .ok (.getfield 16, 3) := by decide +kernel
theorem dX11_init_78 : decode cX11_init 78 = .ok (.aload_n 0, 1) := by decide +kernel
theorem dX11_init_79 : decode cX11_init 79 = .ok (.getfield 23, 3) := by decide +kernel
theorem dX11_init_82 : decode cX11_init 82 = .ok (.invokespecial 45, 3) := by decide +kernel
theorem dX11_init_85 : decode cX11_init 85 = .ok (.putfield 48, 3) := by decide +kernel
theorem dX11_init_88 : decode cX11_init 88 = .ok (.aload_n 0, 1) := by decide +kernel
theorem dX11_init_89 : decode cX11_init 89 = .ok (.new 52, 3) := by decide +kernel
theorem dX11_init_92 : decode cX11_init 92 = .ok (.dup, 1) := by decide +kernel
theorem dX11_init_93 : decode cX11_init 93 = .ok (.aload_n 0, 1) := by decide +kernel
theorem dX11_init_94 : decode cX11_init 94 = .ok (.getfield 16, 3) := by decide +kernel
theorem dX11_init_97 : decode cX11_init 97 = .ok (.aload_n 0, 1) := by decide +kernel
theorem dX11_init_98 : decode cX11_init 98 = .ok (.getfield 48, 3) := by decide +kernel
theorem dX11_init_101 : decode cX11_init 101 = .ok (.invokespecial 54, 3) := by decide +kernel
theorem dX11_init_104 : decode cX11_init 104 = .ok (.putfield 57, 3) := by decide +kernel
theorem dX11_init_107 : decode cX11_init 107 = .ok (.aload_n 0, 1) := by decide +kernel
theorem dX11_init_108 : decode cX11_init 108 = .ok (.new 61, 3) := by decide +kernel
theorem dX11_init_111 : decode cX11_init 111 = .ok (.dup, 1) := by decide +kernel
theorem dX11_init_112 : decode cX11_init 112 = .ok (.invokespecial 63, 3) := by decide +kernel
theorem dX11_init_115 : decode cX11_init 115 = .ok (.putfield 64, 3) := by decide +kernel
theorem dX11_init_118 : decode cX11_init 118 = .ok (.aload_n 0, 1) := by decide +kernel
theorem dX11_init_119 : decode cX11_init 119 = .ok (.new 68, 3) := by decide +kernel
theorem dX11_init_122 : decode cX11_init 122 = .ok (.dup, 1) := by decide +kernel
theorem dX11_init_123 : decode cX11_init 123 = .ok (.aload_n 0, 1) := by decide +kernel
theorem dX11_init_124 : decode cX11_init 124 = .ok (.getfield 16, 3) := by decide +kernel
theorem dX11_init_127 : decode cX11_init 127 = .ok (.aload_n 0, 1) := by decide +kernel
theorem dX11_init_128 : decode cX11_init 128 = .ok (.getfield 64, 3) := by decide +kernel
theorem dX11_init_131 : decode cX11_init 131 = .ok (.invokespecial 70, 3) := by decide +kernel
theorem dX11_init_134 : decode cX11_init 134 = .ok (.putfield 73, 3) := by decide +kernel
theorem dX11_init_137 : decode cX11_init 137 = .ok (.return_, 1) := by decide +kernel
theorem dX11_feed_0 : decode cX11_feed 0 = .ok (.aload_n 0, 1) := by decide +kernel
theorem dX11_feed_1 : decode cX11_feed 1 = .ok (.getfield 77, 3) := by decide +kernel
theorem dX11_feed_4 : decode cX11_feed 4 = .ok (.bipush 20, 2) := by decide +kernel
theorem dX11_feed_6 : decode cX11_feed 6 = .ok (.iadd, 1) := by decide +kernel
theorem dX11_feed_7 : decode cX11_feed 7 = .ok (.sipush 500, 3) := by decide +kernel
theorem dX11_feed_10 : decode cX11_feed 10 = .ok (.if_icmp .le 5, 3) := by decide +kernel
theorem dX11_feed_13 : decode cX11_feed 13 = .ok (.iconst (-1), 1) := by decide +kernel
theorem dX11_feed_14 : decode cX11_feed 14 = .ok (.ireturn, 1) := by decide +kernel
theorem dX11_feed_15 : decode cX11_feed 15 = .ok (.aload_n 0, 1) := by decide +kernel
theorem dX11_feed_16 : decode cX11_feed 16 = .ok (.iload_n 1, 1) := by decide +kernel
theorem dX11_feed_17 : decode cX11_feed 17 = .ok (.invokevirtual 81, 3) := by decide +kernel
theorem dX11_feed_20 : decode cX11_feed 20 = .ok (.aload_n 0, 1) := by decide +kernel
theorem dX11_feed_21 : decode cX11_feed 21 = .ok (.iload_n 2, 1) := by decide +kernel
theorem dX11_feed_22 : decode cX11_feed 22 = .ok (.invokevirtual 81, 3) := by decide +kernel
theorem dX11_feed_25 : decode cX11_feed 25 = .ok (.aload_n 0, 1) := by decide +kernel
theorem dX11_feed_26 : decode cX11_feed 26 = .ok (.iload_n 3, 1) := by decide +kernel
theorem dX11_feed_27 : decode cX11_feed 27 = .ok (.invokevirtual 81, 3) := by decide +kernel
theorem dX11_feed_30 : decode cX11_feed 30 = .ok (.aload_n 0, 1) := by decide +kernel
theorem dX11_feed_31 : decode cX11_feed 31 = .ok (.iload 4, 2) := by decide +kernel
theorem dX11_feed_33 : decode cX11_feed 33 = .ok (.invokevirtual 81, 3) := by decide +kernel
theorem dX11_feed_36 : decode cX11_feed 36 = .ok (.aload_n 0, 1) := by decide +kernel
theorem dX11_feed_37 : decode cX11_feed 37 = .ok (.iload 5, 2) := by decide +kernel
theorem dX11_feed_39 : decode cX11_feed 39 = .ok (.invokevirtual 81, 3) := by decide +kernel
theorem dX11_feed_42 : decode cX11_feed 42 = .ok (.aload_n 0, 1) := by decide +kernel
theorem dX11_feed_43 : decode cX11_feed 43 = .ok (.getfield 77, 3) := by decide +kernel
theorem dX11_feed_46 : decode cX11_feed 46 = .ok (.ireturn, 1) := by decide +kernel
theorem dX11_turn_0 : decode cX11_turn 0 = .ok (.iload_n 1, 1) := by decide +kernel
theorem dX11_turn_1 : decode cX11_turn 1 = .ok (.ifCond .lt 11, 3) := by decide +kernel
theorem dX11_turn_4 : decode cX11_turn 4 = .ok (.iload_n 1, 1) := by decide +kernel
theorem dX11_turn_5 : decode cX11_turn 5 = .ok (.aload_n 0, 1) := by decide +kernel
theorem dX11_turn_6 : decode cX11_turn 6 = .ok (.getfield 77, 3) := by decide +kernel
theorem dX11_turn_9 : decode cX11_turn 9 = .ok (.if_icmp .le 6, 3) := by decide +kernel
theorem dX11_turn_12 : decode cX11_turn 12 = .ok (.bipush (-2), 2) := by decide +kernel
theorem dX11_turn_14 : decode cX11_turn 14 = .ok (.ireturn, 1) := by decide +kernel
theorem dX11_turn_15 : decode cX11_turn 15 = .ok (.aload_n 0, 1) := by decide +kernel
theorem dX11_turn_16 : decode cX11_turn 16 = .ok (.iconst 0, 1) := by decide +kernel
theorem dX11_turn_17 : decode cX11_turn 17 = .ok (.putfield 77, 3) := by decide +kernel
theorem dX11_turn_20 : decode cX11_turn 20 = .ok (.aload_n 0, 1) := by decide +kernel
theorem dX11_turn_21 : decode cX11_turn 21 = .ok (.getfield 39, 3) := by decide +kernel
theorem dX11_turn_24 : decode cX11_turn 24 = .ok (.invokevirtual 85, 3) := by decide +kernel
theorem dX11_turn_27 : decode cX11_turn 27 = .ok (.aload_n 0, 1) := by decide +kernel
theorem dX11_turn_28 : decode cX11_turn 28 = .ok (.getfield 30, 3) := by decide +kernel
theorem dX11_turn_31 : decode cX11_turn 31 = .ok (.aload_n 0, 1) := by decide +kernel
theorem dX11_turn_32 : decode cX11_turn 32 = .ok (.getfield 9, 3) := by decide +kernel
theorem dX11_turn_35 : decode cX11_turn 35 = .ok (.iload_n 1, 1) := by decide +kernel
theorem dX11_turn_36 : decode cX11_turn 36 = .ok (.invokevirtual 88, 3) := by decide +kernel
theorem dX11_turn_39 : decode cX11_turn 39 = .ok (.aload_n 0, 1) := by decide +kernel
theorem dX11_turn_40 : decode cX11_turn 40 = .ok (.getfield 30, 3) := by decide +kernel
theorem dX11_turn_43 : decode cX11_turn 43 = .ok (.getfield 92, 3) := by decide +kernel
theorem dX11_turn_46 : decode cX11_turn 46 = .ok (.ifCond .ne 22, 3) := by decide +kernel
theorem dX11_turn_49 : decode cX11_turn 49 = .ok (.aload_n 0, 1) := by decide +kernel
theorem dX11_turn_50 : decode cX11_turn 50 = .ok (.getfield 39, 3) := by decide +kernel
theorem dX11_turn_53 : decode cX11_turn 53 = .ok (.iconst 0, 1) := by decide +kernel
theorem dX11_turn_54 : decode cX11_turn 54 = .ok (.aload_n 0, 1) := by decide +kernel
theorem dX11_turn_55 : decode cX11_turn 55 = .ok (.getfield 30, 3) := by decide +kernel
theorem dX11_turn_58 : decode cX11_turn 58 = .ok (.getfield 95, 3) := by decide +kernel
theorem dX11_turn_61 : decode cX11_turn 61 = .ok (.iconst 0, 1) := by decide +kernel
theorem dX11_turn_62 : decode cX11_turn 62 = .ok (.invokevirtual 98, 3) := by decide +kernel
theorem dX11_turn_65 : decode cX11_turn 65 = .ok (.goto 4, 3) := by decide +kernel
theorem dX11_turn_68 : decode cX11_turn 68 = .ok (.iconst (-1), 1) := by decide +kernel
theorem dX11_turn_69 : decode cX11_turn 69 = .ok (.ireturn, 1) := by decide +kernel
theorem dX11_turned_0 : decode cX11_turned 0 = .ok (.iload_n 1, 1) := by decide +kernel
theorem dX11_turned_1 : decode cX11_turned 1 = .ok (.tableswitch 75 0 4 #[35, 43, 51, 59, 67], 35) := by decide +kernel
theorem dX11_turned_36 : decode cX11_turned 36 = .ok (.aload_n 0, 1) := by decide +kernel
theorem dX11_turned_37 : decode cX11_turned 37 = .ok (.getfield 30, 3) := by decide +kernel
theorem dX11_turned_40 : decode cX11_turned 40 = .ok (.getfield 92, 3) := by decide +kernel
theorem dX11_turned_43 : decode cX11_turned 43 = .ok (.ireturn, 1) := by decide +kernel
theorem dX11_turned_44 : decode cX11_turned 44 = .ok (.aload_n 0, 1) := by decide +kernel
theorem dX11_turned_45 : decode cX11_turned 45 = .ok (.getfield 30, 3) := by decide +kernel
theorem dX11_turned_48 : decode cX11_turned 48 = .ok (.getfield 102, 3) := by decide +kernel
theorem dX11_turned_51 : decode cX11_turned 51 = .ok (.ireturn, 1) := by decide +kernel
theorem dX11_turned_52 : decode cX11_turned 52 = .ok (.aload_n 0, 1) := by decide +kernel
theorem dX11_turned_53 : decode cX11_turned 53 = .ok (.getfield 39, 3) := by decide +kernel
theorem dX11_turned_56 : decode cX11_turned 56 = .ok (.getfield 105, 3) := by decide +kernel
theorem dX11_turned_59 : decode cX11_turned 59 = .ok (.ireturn, 1) := by decide +kernel
theorem dX11_turned_60 : decode cX11_turned 60 = .ok (.aload_n 0, 1) := by decide +kernel
theorem dX11_turned_61 : decode cX11_turned 61 = .ok (.getfield 39, 3) := by decide +kernel
theorem dX11_turned_64 : decode cX11_turned 64 = .ok (.getfield 108, 3) := by decide +kernel
theorem dX11_turned_67 : decode cX11_turned 67 = .ok (.ireturn, 1) := by decide +kernel
theorem dX11_turned_68 : decode cX11_turned 68 = .ok (.aload_n 0, 1) := by decide +kernel
theorem dX11_turned_69 : decode cX11_turned 69 = .ok (.getfield 39, 3) := by decide +kernel
theorem dX11_turned_72 : decode cX11_turned 72 = .ok (.getfield 111, 3) := by decide +kernel
theorem dX11_turned_75 : decode cX11_turned 75 = .ok (.ireturn, 1) := by decide +kernel
theorem dX11_turned_76 : decode cX11_turned 76 = .ok (.iconst (-1), 1) := by decide +kernel
theorem dX11_turned_77 : decode cX11_turned 77 = .ok (.ireturn, 1) := by decide +kernel
theorem dX11_dial_0 : decode cX11_dial 0 = .ok (.iload_n 1, 1) := by decide +kernel
theorem dX11_dial_1 : decode cX11_dial 1 = .ok (.bipush 10, 2) := by decide +kernel
theorem dX11_dial_3 : decode cX11_dial 3 = .ok (.if_icmp .lt 9, 3) := by decide +kernel
theorem dX11_dial_6 : decode cX11_dial 6 = .ok (.iload_n 1, 1) := by decide +kernel
theorem dX11_dial_7 : decode cX11_dial 7 = .ok (.bipush 100, 2) := by decide +kernel
theorem dX11_dial_9 : decode cX11_dial 9 = .ok (.if_icmp .le 5, 3) := by decide +kernel
theorem dX11_dial_12 : decode cX11_dial 12 = .ok (.iconst 0, 1) := by decide +kernel
theorem dX11_dial_13 : decode cX11_dial 13 = .ok (.ireturn, 1) := by decide +kernel
theorem dX11_dial_14 : decode cX11_dial 14 = .ok (.aload_n 0, 1) := by decide +kernel
theorem dX11_dial_15 : decode cX11_dial 15 = .ok (.getfield 16, 3) := by decide +kernel
theorem dX11_dial_18 : decode cX11_dial 18 = .ok (.iload_n 1, 1) := by decide +kernel
theorem dX11_dial_19 : decode cX11_dial 19 = .ok (.invokevirtual 114, 3) := by decide +kernel
theorem dX11_dial_22 : decode cX11_dial 22 = .ok (.aload_n 0, 1) := by decide +kernel
theorem dX11_dial_23 : decode cX11_dial 23 = .ok (.getfield 23, 3) := by decide +kernel
theorem dX11_dial_26 : decode cX11_dial 26 = .ok (.iconst 0, 1) := by decide +kernel
theorem dX11_dial_27 : decode cX11_dial 27 = .ok (.putfield 117, 3) := by decide +kernel
theorem dX11_dial_30 : decode cX11_dial 30 = .ok (.aload_n 0, 1) := by decide +kernel
theorem dX11_dial_31 : decode cX11_dial 31 = .ok (.getfield 64, 3) := by decide +kernel
theorem dX11_dial_34 : decode cX11_dial 34 = .ok (.iconst 0, 1) := by decide +kernel
theorem dX11_dial_35 : decode cX11_dial 35 = .ok (.putfield 118, 3) := by decide +kernel
theorem dX11_dial_38 : decode cX11_dial 38 = .ok (.aload_n 0, 1) := by decide +kernel
theorem dX11_dial_39 : decode cX11_dial 39 = .ok (.getfield 73, 3) := by decide +kernel
theorem dX11_dial_42 : decode cX11_dial 42 = .ok (.iconst 0, 1) := by decide +kernel
theorem dX11_dial_43 : decode cX11_dial 43 = .ok (.putfield 119, 3) := by decide +kernel
theorem dX11_dial_46 : decode cX11_dial 46 = .ok (.aload_n 0, 1) := by decide +kernel
theorem dX11_dial_47 : decode cX11_dial 47 = .ok (.iconst 0, 1) := by decide +kernel
theorem dX11_dial_48 : decode cX11_dial 48 = .ok (.putfield 120, 3) := by decide +kernel
theorem dX11_dial_51 : decode cX11_dial 51 = .ok (.iconst 1, 1) := by decide +kernel
theorem dX11_dial_52 : decode cX11_dial 52 = .ok (.ireturn, 1) := by decide +kernel
theorem dX11_wheel_0 : decode cX11_wheel 0 = .ok (.iload_n 1, 1) := by decide +kernel
theorem dX11_wheel_1 : decode cX11_wheel 1 = .ok (.iconst 1, 1) := by decide +kernel
theorem dX11_wheel_2 : decode cX11_wheel 2 = .ok (.bipush 9, 2) := by decide +kernel
theorem dX11_wheel_4 : decode cX11_wheel 4 = .ok (.invokestatic 123, 3) := by decide +kernel
theorem dX11_wheel_7 : decode cX11_wheel 7 = .ok (.ifCond .eq 75, 3) := by decide +kernel
theorem dX11_wheel_10 : decode cX11_wheel 10 = .ok (.aload_n 0, 1) := by decide +kernel
theorem dX11_wheel_11 : decode cX11_wheel 11 = .ok (.getfield 16, 3) := by decide +kernel
theorem dX11_wheel_14 : decode cX11_wheel 14 = .ok (.iload_n 2, 1) := by decide +kernel
theorem dX11_wheel_15 : decode cX11_wheel 15 = .ok (.invokevirtual 127, 3) := by decide +kernel
theorem dX11_wheel_18 : decode cX11_wheel 18 = .ok (.ifCond .eq 64, 3) := by decide +kernel
theorem dX11_wheel_21 : decode cX11_wheel 21 = .ok (.iload_n 3, 1) := by decide +kernel
theorem dX11_wheel_22 : decode cX11_wheel 22 = .ok (.iconst 0, 1) := by decide +kernel
theorem dX11_wheel_23 : decode cX11_wheel 23 = .ok (.iconst 3, 1) := by decide +kernel
theorem dX11_wheel_24 : decode cX11_wheel 24 = .ok (.invokestatic 123, 3) := by decide +kernel
theorem dX11_wheel_27 : decode cX11_wheel 27 = .ok (.ifCond .eq 55, 3) := by decide +kernel
theorem dX11_wheel_30 : decode cX11_wheel 30 = .ok (.iload 4, 2) := by decide +kernel
theorem dX11_wheel_32 : decode cX11_wheel 32 = .ok (.sipush 200, 3) := by decide +kernel
theorem dX11_wheel_35 : decode cX11_wheel 35 = .ok (.sipush 900, 3) := by decide +kernel
theorem dX11_wheel_38 : decode cX11_wheel 38 = .ok (.invokestatic 123, 3) := by decide +kernel
theorem dX11_wheel_41 : decode cX11_wheel 41 = .ok (.ifCond .eq 41, 3) := by decide +kernel
theorem dX11_wheel_44 : decode cX11_wheel 44 = .ok (.iload 5, 2) := by decide +kernel
theorem dX11_wheel_46 : decode cX11_wheel 46 = .ok (.iconst 0, 1) := by decide +kernel
theorem dX11_wheel_47 : decode cX11_wheel 47 = .ok (.bipush 50, 2) := by decide +kernel
theorem dX11_wheel_49 : decode cX11_wheel 49 = .ok (.invokestatic 123, 3) := by decide +kernel
theorem dX11_wheel_52 : decode cX11_wheel 52 = .ok (.ifCond .eq 30, 3) := by decide +kernel
theorem dX11_wheel_55 : decode cX11_wheel 55 = .ok (.aload_n 0, 1) := by decide +kernel
theorem dX11_wheel_56 : decode cX11_wheel 56 = .ok (.getfield 16, 3) := by decide +kernel
theorem dX11_wheel_59 : decode cX11_wheel 59 = .ok (.iload 6, 2) := by decide +kernel
theorem dX11_wheel_61 : decode cX11_wheel 61 = .ok (.invokevirtual 127, 3) := by decide +kernel
theorem dX11_wheel_64 : decode cX11_wheel 64 = .ok (.ifCond .eq 18, 3) := by decide +kernel
theorem dX11_wheel_67 : decode cX11_wheel 67 = .ok (.iload 7, 2) := by decide +kernel
theorem dX11_wheel_69 : decode cX11_wheel 69 = .ok (.iconst 0, 1) := by decide +kernel
theorem dX11_wheel_70 : decode cX11_wheel 70 = .ok (.bipush 60, 2) := by decide +kernel
theorem dX11_wheel_72 : decode cX11_wheel 72 = .ok (.invokestatic 123, 3) := by decide +kernel
theorem dX11_wheel_75 : decode cX11_wheel 75 = .ok (.ifCond .eq 7, 3) := by decide +kernel
theorem dX11_wheel_78 : decode cX11_wheel 78 = .ok (.iconst 1, 1) := by decide +kernel
theorem dX11_wheel_79 : decode cX11_wheel 79 = .ok (.goto 4, 3) := by decide +kernel
theorem dX11_wheel_82 : decode cX11_wheel 82 = .ok (.iconst 0, 1) := by decide +kernel
theorem dX11_wheel_83 : decode cX11_wheel 83 = .ok (.istore 8, 2) := by decide +kernel
theorem dX11_wheel_85 : decode cX11_wheel 85 = .ok (.iload 8, 2) := by decide +kernel
theorem dX11_wheel_87 : decode cX11_wheel 87 = .ok (.ifCond .eq 17, 3) := by decide +kernel
theorem dX11_wheel_90 : decode cX11_wheel 90 = .ok (.aload_n 0, 1) := by decide +kernel
theorem dX11_wheel_91 : decode cX11_wheel 91 = .ok (.getfield 16, 3) := by decide +kernel
theorem dX11_wheel_94 : decode cX11_wheel 94 = .ok (.getfield 131, 3) := by decide +kernel
theorem dX11_wheel_97 : decode cX11_wheel 97 = .ok (.getfield 135, 3) := by decide +kernel
theorem dX11_wheel_100 : decode cX11_wheel 100 = .ok (.iconst 4, 1) := by decide +kernel
theorem dX11_wheel_101 : decode cX11_wheel 101 = .ok (.if_icmp .lt 5, 3) := by decide +kernel
theorem dX11_wheel_104 : decode cX11_wheel 104 = .ok (.iconst (-1), 1) := by decide +kernel
theorem dX11_wheel_105 : decode cX11_wheel 105 = .ok (.ireturn, 1) := by decide +kernel
theorem dX11_wheel_106 : decode cX11_wheel 106 = .ok (.aload_n 0, 1) := by decide +kernel
theorem dX11_wheel_107 : decode cX11_wheel 107 = .ok (.getfield 16, 3) := by decide +kernel
theorem dX11_wheel_110 : decode cX11_wheel 110 = .ok (.getfield 131, 3) := by decide +kernel
theorem dX11_wheel_113 : decode cX11_wheel 113 = .ok (.getfield 135, 3) := by decide +kernel
theorem dX11_wheel_116 : decode cX11_wheel 116 = .ok (.istore 9, 2) := by decide +kernel
theorem dX11_wheel_118 : decode cX11_wheel 118 = .ok (.aload_n 0, 1) := by decide +kernel
theorem dX11_wheel_119 : decode cX11_wheel 119 = .ok (.getfield 16, 3) := by decide +kernel
theorem dX11_wheel_122 : decode cX11_wheel 122 = .ok (.getfield 138, 3) := by decide +kernel
theorem dX11_wheel_125 : decode cX11_wheel 125 = .ok (.iload 9, 2) := by decide +kernel
theorem dX11_wheel_127 : decode cX11_wheel 127 = .ok (.aaload, 1) := by decide +kernel
theorem dX11_wheel_128 : decode cX11_wheel 128 = .ok (.iload_n 1, 1) := by decide +kernel
theorem dX11_wheel_129 : decode cX11_wheel 129 = .ok (.iload_n 2, 1) := by decide +kernel
theorem dX11_wheel_130 : decode cX11_wheel 130 = .ok (.iload_n 3, 1) := by decide +kernel
theorem dX11_wheel_131 : decode cX11_wheel 131 = .ok (.iload 4, 2) := by decide +kernel
theorem dX11_wheel_133 : decode cX11_wheel 133 = .ok (.iload 5, 2) := by decide +kernel
theorem dX11_wheel_135 : decode cX11_wheel 135 = .ok (.iload 6, 2) := by decide +kernel
theorem dX11_wheel_137 : decode cX11_wheel 137 = .ok (.iload 7, 2) := by decide +kernel
theorem dX11_wheel_139 : decode cX11_wheel 139 = .ok (.invokevirtual 142, 3) := by decide +kernel
theorem dX11_wheel_142 : decode cX11_wheel 142 = .ok (.aload_n 0, 1) := by decide +kernel
theorem dX11_wheel_143 : decode cX11_wheel 143 = .ok (.getfield 16, 3) := by decide +kernel
theorem dX11_wheel_146 : decode cX11_wheel 146 = .ok (.getfield 131, 3) := by decide +kernel
theorem dX11_wheel_149 : decode cX11_wheel 149 = .ok (.iload_n 1, 1) := by decide +kernel
theorem dX11_wheel_150 : decode cX11_wheel 150 = .ok (.invokevirtual 148, 3) := by decide +kernel
theorem dX11_wheel_153 : decode cX11_wheel 153 = .ok (.aload_n 0, 1) := by decide +kernel
theorem dX11_wheel_154 : decode cX11_wheel 154 = .ok (.getfield 16, 3) := by decide +kernel
theorem dX11_wheel_157 : decode cX11_wheel 157 = .ok (.getfield 131, 3) := by decide +kernel
theorem dX11_wheel_160 : decode cX11_wheel 160 = .ok (.invokevirtual 151, 3) := by decide +kernel
theorem dX11_wheel_163 : decode cX11_wheel 163 = .ok (.aload_n 0, 1) := by decide +kernel
theorem dX11_wheel_164 : decode cX11_wheel 164 = .ok (.getfield 23, 3) := by decide +kernel
theorem dX11_wheel_167 : decode cX11_wheel 167 = .ok (.iconst 0, 1) := by decide +kernel
theorem dX11_wheel_168 : decode cX11_wheel 168 = .ok (.putfield 117, 3) := by decide +kernel
theorem dX11_wheel_171 : decode cX11_wheel 171 = .ok (.iload 9, 2) := by decide +kernel
theorem dX11_wheel_173 : decode cX11_wheel 173 = .ok (.ireturn, 1) := by decide +kernel
theorem dX11_second_0 : decode cX11_second 0 = .ok (.aload_n 0, 1) := by decide +kernel
theorem dX11_second_1 : decode cX11_second 1 = .ok (.getfield 16, 3) := by decide +kernel
theorem dX11_second_4 : decode cX11_second 4 = .ok (.iload_n 1, 1) := by decide +kernel
theorem dX11_second_5 : decode cX11_second 5 = .ok (.invokevirtual 154, 3) := by decide +kernel
theorem dX11_second_8 : decode cX11_second 8 = .ok (.ifCond .eq 19, 3) := by decide +kernel
theorem dX11_second_11 : decode cX11_second 11 = .ok (.iload_n 2, 1) := by decide +kernel
theorem dX11_second_12 : decode cX11_second 12 = .ok (.iconst (-1), 1) := by decide +kernel
theorem dX11_second_13 : decode cX11_second 13 = .ok (.if_icmp .eq 16, 3) := by decide +kernel
theorem dX11_second_16 : decode cX11_second 16 = .ok (.aload_n 0, 1) := by decide +kernel
theorem dX11_second_17 : decode cX11_second 17 = .ok (.getfield 16, 3) := by decide +kernel
theorem dX11_second_20 : decode cX11_second 20 = .ok (.iload_n 2, 1) := by decide +kernel
theorem dX11_second_21 : decode cX11_second 21 = .ok (.invokevirtual 127, 3) := by decide +kernel
theorem dX11_second_24 : decode cX11_second 24 = .ok (.ifCond .ne 5, 3) := by decide +kernel
theorem dX11_second_27 : decode cX11_second 27 = .ok (.iconst 0, 1) := by decide +kernel
theorem dX11_second_28 : decode cX11_second 28 = .ok (.ireturn, 1) := by decide +kernel
theorem dX11_second_29 : decode cX11_second 29 = .ok (.aload_n 0, 1) := by decide +kernel
theorem dX11_second_30 : decode cX11_second 30 = .ok (.getfield 16, 3) := by decide +kernel
theorem dX11_second_33 : decode cX11_second 33 = .ok (.getfield 138, 3) := by decide +kernel
theorem dX11_second_36 : decode cX11_second 36 = .ok (.iload_n 1, 1) := by decide +kernel
theorem dX11_second_37 : decode cX11_second 37 = .ok (.aaload, 1) := by decide +kernel
theorem dX11_second_38 : decode cX11_second 38 = .ok (.iload_n 2, 1) := by decide +kernel
theorem dX11_second_39 : decode cX11_second 39 = .ok (.putfield 157, 3) := by decide +kernel
theorem dX11_second_42 : decode cX11_second 42 = .ok (.iconst 1, 1) := by decide +kernel
theorem dX11_second_43 : decode cX11_second 43 = .ok (.ireturn, 1) := by decide +kernel
theorem dX11_step_0 : decode cX11_step 0 = .ok (.iload_n 1, 1) := by decide +kernel
theorem dX11_step_1 : decode cX11_step 1 = .ok (.ldc 160, 2) := by decide +kernel
theorem dX11_step_3 : decode cX11_step 3 = .ok (.ldc 161, 2) := by decide +kernel
theorem dX11_step_5 : decode cX11_step 5 = .ok (.invokestatic 123, 3) := by decide +kernel
theorem dX11_step_8 : decode cX11_step 8 = .ok (.ifCond .ne 5, 3) := by decide +kernel
theorem dX11_step_11 : decode cX11_step 11 = .ok (.iconst (-1), 1) := by decide +kernel
theorem dX11_step_12 : decode cX11_step 12 = .ok (.ireturn, 1) := by decide +kernel
theorem dX11_step_13 : decode cX11_step 13 = .ok (.aload_n 0, 1) := by decide +kernel
theorem dX11_step_14 : decode cX11_step 14 = .ok (.getfield 16, 3) := by decide +kernel
theorem dX11_step_17 : decode cX11_step 17 = .ok (.getfield 131, 3) := by decide +kernel
theorem dX11_step_20 : decode cX11_step 20 = .ok (.iload_n 1, 1) := by decide +kernel
theorem dX11_step_21 : decode cX11_step 21 = .ok (.invokestatic 162, 3) := by decide +kernel
theorem dX11_step_24 : decode cX11_step 24 = .ok (.iload_n 1, 1) := by decide +kernel
theorem dX11_step_25 : decode cX11_step 25 = .ok (.ifCond .le 7, 3) := by decide +kernel
theorem dX11_step_28 : decode cX11_step 28 = .ok (.iconst 1, 1) := by decide +kernel
theorem dX11_step_29 : decode cX11_step 29 = .ok (.goto 4, 3) := by decide +kernel
theorem dX11_step_32 : decode cX11_step 32 = .ok (.iconst 0, 1) := by decide +kernel
theorem dX11_step_33 : decode cX11_step 33 = .ok (.invokevirtual 168, 3) := by decide +kernel
theorem dX11_step_36 : decode cX11_step 36 = .ok (.aload_n 0, 1) := by decide +kernel
theorem dX11_step_37 : decode cX11_step 37 = .ok (.getfield 16, 3) := by decide +kernel
theorem dX11_step_40 : decode cX11_step 40 = .ok (.getfield 131, 3) := by decide +kernel
theorem dX11_step_43 : decode cX11_step 43 = .ok (.getfield 172, 3) := by decide +kernel
theorem dX11_step_46 : decode cX11_step 46 = .ok (.ireturn, 1) := by decide +kernel
theorem dX11_look_0 : decode cX11_look 0 = .ok (.aload_n 0, 1) := by decide +kernel
theorem dX11_look_1 : decode cX11_look 1 = .ok (.getfield 16, 3) := by decide +kernel
theorem dX11_look_4 : decode cX11_look 4 = .ok (.iload_n 1, 1) := by decide +kernel
theorem dX11_look_5 : decode cX11_look 5 = .ok (.invokevirtual 154, 3) := by decide +kernel
theorem dX11_look_8 : decode cX11_look 8 = .ok (.ifCond .ne 13, 3) := by decide +kernel
theorem dX11_look_11 : decode cX11_look 11 = .ok (.new 175, 3) := by decide +kernel
theorem dX11_look_14 : decode cX11_look 14 = .ok (.dup, 1) := by decide +kernel
theorem dX11_look_15 : decode cX11_look 15 = .ok (.ldc 177, 2) := by decide +kernel
theorem dX11_look_17 : decode cX11_look 17 = .ok (.invokespecial 179, 3) := by decide +kernel
theorem dX11_look_20 : decode cX11_look 20 = .ok (.athrow, 1) := by decide +kernel
theorem dX11_look_21 : decode cX11_look 21 = .ok (.aload_n 0, 1) := by decide +kernel
theorem dX11_look_22 : decode cX11_look 22 = .ok (.getfield 16, 3) := by decide +kernel
theorem dX11_look_25 : decode cX11_look 25 = .ok (.getfield 138, 3) := by decide +kernel
theorem dX11_look_28 : decode cX11_look 28 = .ok (.iload_n 1, 1) := by decide +kernel
theorem dX11_look_29 : decode cX11_look 29 = .ok (.aaload, 1) := by decide +kernel
theorem dX11_look_30 : decode cX11_look 30 = .ok (.astore_n 3, 1) := by decide +kernel
theorem dX11_look_31 : decode cX11_look 31 = .ok (.iload_n 2, 1) := by decide +kernel
theorem dX11_look_32 : decode cX11_look 32 = .ok (.tableswitch 120 0 7 #[48, 61, 74, 83, 100, 105, 110, 115], 48) := by decide +kernel
theorem dX11_look_80 : decode cX11_look 80 = .ok (.aload_n 0, 1) := by decide +kernel
theorem dX11_look_81 : decode cX11_look 81 = .ok (.getfield 16, 3) := by decide +kernel
theorem dX11_look_84 : decode cX11_look 84 = .ok (.getfield 131, 3) := by decide +kernel
theorem dX11_look_87 : decode cX11_look 87 = .ok (.getfield 182, 3) := by decide +kernel
theorem dX11_look_90 : decode cX11_look 90 = .ok (.iload_n 1, 1) := by decide +kernel
theorem dX11_look_91 : decode cX11_look 91 = .ok (.iaload, 1) := by decide +kernel
theorem dX11_look_92 : decode cX11_look 92 = .ok (.ireturn, 1) := by decide +kernel
theorem dX11_look_93 : decode cX11_look 93 = .ok (.aload_n 0, 1) := by decide +kernel
theorem dX11_look_94 : decode cX11_look 94 = .ok (.getfield 16, 3) := by decide +kernel
theorem dX11_look_97 : decode cX11_look 97 = .ok (.getfield 131, 3) := by decide +kernel
theorem dX11_look_100 : decode cX11_look 100 = .ok (.getfield 186, 3) := by decide +kernel
theorem dX11_look_103 : decode cX11_look 103 = .ok (.iload_n 1, 1) := by decide +kernel
theorem dX11_look_104 : decode cX11_look 104 = .ok (.iaload, 1) := by decide +kernel
theorem dX11_look_105 : decode cX11_look 105 = .ok (.ireturn, 1) := by decide +kernel
theorem dX11_look_106 : decode cX11_look 106 = .ok (.aload_n 0, 1) := by decide +kernel
theorem dX11_look_107 : decode cX11_look 107 = .ok (.getfield 16, 3) := by decide +kernel
theorem dX11_look_110 : decode cX11_look 110 = .ok (.iload_n 1, 1) := by decide +kernel
theorem dX11_look_111 : decode cX11_look 111 = .ok (.invokevirtual 189, 3) := by decide +kernel
theorem dX11_look_114 : decode cX11_look 114 = .ok (.ireturn, 1) := by decide +kernel
theorem dX11_look_115 : decode cX11_look 115 = .ok (.aload_n 0, 1) := by decide +kernel
theorem dX11_look_116 : decode cX11_look 116 = .ok (.getfield 16, 3) := by decide +kernel
theorem dX11_look_119 : decode cX11_look 119 = .ok (.iload_n 1, 1) := by decide +kernel
theorem dX11_look_120 : decode cX11_look 120 = .ok (.invokevirtual 192, 3) := by decide +kernel
theorem dX11_look_123 : decode cX11_look 123 = .ok (.ifCond .eq 7, 3) := by decide +kernel
theorem dX11_look_126 : decode cX11_look 126 = .ok (.iconst 1, 1) := by decide +kernel
theorem dX11_look_127 : decode cX11_look 127 = .ok (.goto 4, 3) := by decide +kernel
theorem dX11_look_130 : decode cX11_look 130 = .ok (.iconst 0, 1) := by decide +kernel
theorem dX11_look_131 : decode cX11_look 131 = .ok (.ireturn, 1) := by decide +kernel
theorem dX11_look_132 : decode cX11_look 132 = .ok (.aload_n 3, 1) := by decide +kernel
theorem dX11_look_133 : decode cX11_look 133 = .ok (.getfield 195, 3) := by decide +kernel
theorem dX11_look_136 : decode cX11_look 136 = .ok (.ireturn, 1) := by decide +kernel
theorem dX11_look_137 : decode cX11_look 137 = .ok (.aload_n 3, 1) := by decide +kernel
theorem dX11_look_138 : decode cX11_look 138 = .ok (.getfield 157, 3) := by decide +kernel
theorem dX11_look_141 : decode cX11_look 141 = .ok (.ireturn, 1) := by decide +kernel
theorem dX11_look_142 : decode cX11_look 142 = .ok (.aload_n 3, 1) := by decide +kernel
theorem dX11_look_143 : decode cX11_look 143 = .ok (.getfield 198, 3) := by decide +kernel
theorem dX11_look_146 : decode cX11_look 146 = .ok (.ireturn, 1) := by decide +kernel
theorem dX11_look_147 : decode cX11_look 147 = .ok (.aload_n 3, 1) := by decide +kernel
theorem dX11_look_148 : decode cX11_look 148 = .ok (.getfield 201, 3) := by decide +kernel
theorem dX11_look_151 : decode cX11_look 151 = .ok (.ireturn, 1) := by decide +kernel
theorem dX11_look_152 : decode cX11_look 152 = .ok (.new 204, 3) := by decide +kernel
theorem dX11_look_155 : decode cX11_look 155 = .ok (.dup, 1) := by decide +kernel
theorem dX11_look_156 : decode cX11_look 156 = .ok (.ldc 206, 2) := by decide +kernel
theorem dX11_look_158 : decode cX11_look 158 = .ok (.invokespecial 208, 3) := by decide +kernel
theorem dX11_look_161 : decode cX11_look 161 = .ok (.athrow, 1) := by decide +kernel
theorem dX11_rides_0 : decode cX11_rides 0 = .ok (.aload_n 0, 1) := by decide +kernel
theorem dX11_rides_1 : decode cX11_rides 1 = .ok (.getfield 16, 3) := by decide +kernel
theorem dX11_rides_4 : decode cX11_rides 4 = .ok (.invokevirtual 209, 3) := by decide +kernel
theorem dX11_rides_7 : decode cX11_rides 7 = .ok (.ireturn, 1) := by decide +kernel
theorem dX11_open_0 : decode cX11_open 0 = .ok (.aload_n 0, 1) := by decide +kernel
theorem dX11_open_1 : decode cX11_open 1 = .ok (.getfield 16, 3) := by decide +kernel
theorem dX11_open_4 : decode cX11_open 4 = .ok (.invokevirtual 213, 3) := by decide +kernel
theorem dX11_open_7 : decode cX11_open 7 = .ok (.ireturn, 1) := by decide +kernel
theorem dX11_clock_0 : decode cX11_clock 0 = .ok (.iload_n 1, 1) := by decide +kernel
theorem dX11_clock_1 : decode cX11_clock 1 = .ok (.iconst 0, 1) := by decide +kernel
theorem dX11_clock_2 : decode cX11_clock 2 = .ok (.sipush 999, 3) := by decide +kernel
theorem dX11_clock_5 : decode cX11_clock 5 = .ok (.invokestatic 123, 3) := by decide +kernel
theorem dX11_clock_8 : decode cX11_clock 8 = .ok (.ifCond .eq 13, 3) := by decide +kernel
theorem dX11_clock_11 : decode cX11_clock 11 = .ok (.aload_n 0, 1) := by decide +kernel
theorem dX11_clock_12 : decode cX11_clock 12 = .ok (.getfield 16, 3) := by decide +kernel
theorem dX11_clock_15 : decode cX11_clock 15 = .ok (.invokevirtual 209, 3) := by decide +kernel
theorem dX11_clock_18 : decode cX11_clock 18 = .ok (.ifCond .eq 5, 3) := by decide +kernel
theorem dX11_clock_21 : decode cX11_clock 21 = .ok (.iconst 0, 1) := by decide +kernel
theorem dX11_clock_22 : decode cX11_clock 22 = .ok (.ireturn, 1) := by decide +kernel
theorem dX11_clock_23 : decode cX11_clock 23 = .ok (.aload_n 0, 1) := by decide +kernel
theorem dX11_clock_24 : decode cX11_clock 24 = .ok (.getfield 16, 3) := by decide +kernel
theorem dX11_clock_27 : decode cX11_clock 27 = .ok (.iload_n 1, 1) := by decide +kernel
theorem dX11_clock_28 : decode cX11_clock 28 = .ok (.putfield 216, 3) := by decide +kernel
theorem dX11_clock_31 : decode cX11_clock 31 = .ok (.iconst 1, 1) := by decide +kernel
theorem dX11_clock_32 : decode cX11_clock 32 = .ok (.ireturn, 1) := by decide +kernel
theorem dX11_hours_0 : decode cX11_hours 0 = .ok (.iload_n 1, 1) := by decide +kernel
theorem dX11_hours_1 : decode cX11_hours 1 = .ok (.iconst 0, 1) := by decide +kernel
theorem dX11_hours_2 : decode cX11_hours 2 = .ok (.sipush 9999, 3) := by decide +kernel
theorem dX11_hours_5 : decode cX11_hours 5 = .ok (.invokestatic 123, 3) := by decide +kernel
theorem dX11_hours_8 : decode cX11_hours 8 = .ok (.ifCond .ne 5, 3) := by decide +kernel
theorem dX11_hours_11 : decode cX11_hours 11 = .ok (.iconst (-1), 1) := by decide +kernel
theorem dX11_hours_12 : decode cX11_hours 12 = .ok (.ireturn, 1) := by decide +kernel
theorem dX11_hours_13 : decode cX11_hours 13 = .ok (.aload_n 0, 1) := by decide +kernel
theorem dX11_hours_14 : decode cX11_hours 14 = .ok (.getfield 16, 3) := by decide +kernel
theorem dX11_hours_17 : decode cX11_hours 17 = .ok (.iconst 0, 1) := by decide +kernel
theorem dX11_hours_18 : decode cX11_hours 18 = .ok (.aload_n 0, 1) := by decide +kernel
theorem dX11_hours_19 : decode cX11_hours 19 = .ok (.getfield 16, 3) := by decide +kernel
theorem dX11_hours_22 : decode cX11_hours 22 = .ok (.getfield 216, 3) := by decide +kernel
theorem dX11_hours_25 : decode cX11_hours 25 = .ok (.iload_n 1, 1) := by decide +kernel
theorem dX11_hours_26 : decode cX11_hours 26 = .ok (.isub, 1) := by decide +kernel
theorem dX11_hours_27 : decode cX11_hours 27 = .ok (.invokestatic 219, 3) := by decide +kernel
theorem dX11_hours_30 : decode cX11_hours 30 = .ok (.putfield 216, 3) := by decide +kernel
theorem dX11_hours_33 : decode cX11_hours 33 = .ok (.aload_n 0, 1) := by decide +kernel
theorem dX11_hours_34 : decode cX11_hours 34 = .ok (.getfield 16, 3) := by decide +kernel
theorem dX11_hours_37 : decode cX11_hours 37 = .ok (.getfield 216, 3) := by decide +kernel
theorem dX11_hours_40 : decode cX11_hours 40 = .ok (.ireturn, 1) := by decide +kernel
theorem dX11_comes_0 : decode cX11_comes 0 = .ok (.aload_n 0, 1) := by decide +kernel
theorem dX11_comes_1 : decode cX11_comes 1 = .ok (.getfield 16, 3) := by decide +kernel
theorem dX11_comes_4 : decode cX11_comes 4 = .ok (.iload_n 1, 1) := by decide +kernel
theorem dX11_comes_5 : decode cX11_comes 5 = .ok (.invokevirtual 154, 3) := by decide +kernel
theorem dX11_comes_8 : decode cX11_comes 8 = .ok (.ifCond .eq 30, 3) := by decide +kernel
theorem dX11_comes_11 : decode cX11_comes 11 = .ok (.aload_n 0, 1) := by decide +kernel
theorem dX11_comes_12 : decode cX11_comes 12 = .ok (.getfield 16, 3) := by decide +kernel
theorem dX11_comes_15 : decode cX11_comes 15 = .ok (.getfield 131, 3) := by decide +kernel
theorem dX11_comes_18 : decode cX11_comes 18 = .ok (.iload_n 1, 1) := by decide +kernel
theorem dX11_comes_19 : decode cX11_comes 19 = .ok (.aload_n 0, 1) := by decide +kernel
theorem dX11_comes_20 : decode cX11_comes 20 = .ok (.getfield 16, 3) := by decide +kernel
theorem dX11_comes_23 : decode cX11_comes 23 = .ok (.getfield 138, 3) := by decide +kernel
theorem dX11_comes_26 : decode cX11_comes 26 = .ok (.iload_n 1, 1) := by decide +kernel
theorem dX11_comes_27 : decode cX11_comes 27 = .ok (.aaload, 1) := by decide +kernel
theorem dX11_comes_28 : decode cX11_comes 28 = .ok (.getfield 195, 3) := by decide +kernel
theorem dX11_comes_31 : decode cX11_comes 31 = .ok (.iload_n 2, 1) := by decide +kernel
theorem dX11_comes_32 : decode cX11_comes 32 = .ok (.invokevirtual 223, 3) := by decide +kernel
theorem dX11_comes_35 : decode cX11_comes 35 = .ok (.goto 4, 3) := by decide +kernel
theorem dX11_comes_38 : decode cX11_comes 38 = .ok (.iconst (-1), 1) := by decide +kernel
theorem dX11_comes_39 : decode cX11_comes 39 = .ok (.ireturn, 1) := by decide +kernel
theorem dX11_change_0 : decode cX11_change 0 = .ok (.aload_n 0, 1) := by decide +kernel
theorem dX11_change_1 : decode cX11_change 1 = .ok (.getfield 16, 3) := by decide +kernel
theorem dX11_change_4 : decode cX11_change 4 = .ok (.iload_n 1, 1) := by decide +kernel
theorem dX11_change_5 : decode cX11_change 5 = .ok (.invokevirtual 154, 3) := by decide +kernel
theorem dX11_change_8 : decode cX11_change 8 = .ok (.ifCond .eq 24, 3) := by decide +kernel
theorem dX11_change_11 : decode cX11_change 11 = .ok (.aload_n 0, 1) := by decide +kernel
theorem dX11_change_12 : decode cX11_change 12 = .ok (.getfield 16, 3) := by decide +kernel
theorem dX11_change_15 : decode cX11_change 15 = .ok (.iload_n 2, 1) := by decide +kernel
theorem dX11_change_16 : decode cX11_change 16 = .ok (.invokevirtual 127, 3) := by decide +kernel
theorem dX11_change_19 : decode cX11_change 19 = .ok (.ifCond .eq 13, 3) := by decide +kernel
theorem dX11_change_22 : decode cX11_change 22 = .ok (.aload_n 0, 1) := by decide +kernel
theorem dX11_change_23 : decode cX11_change 23 = .ok (.getfield 16, 3) := by decide +kernel
theorem dX11_change_26 : decode cX11_change 26 = .ok (.invokevirtual 209, 3) := by decide +kernel
theorem dX11_change_29 : decode cX11_change 29 = .ok (.ifCond .eq 5, 3) := by decide +kernel
theorem dX11_change_32 : decode cX11_change 32 = .ok (.iconst 0, 1) := by decide +kernel
theorem dX11_change_33 : decode cX11_change 33 = .ok (.ireturn, 1) := by decide +kernel
theorem dX11_change_34 : decode cX11_change 34 = .ok (.aload_n 0, 1) := by decide +kernel
theorem dX11_change_35 : decode cX11_change 35 = .ok (.getfield 64, 3) := by decide +kernel
theorem dX11_change_38 : decode cX11_change 38 = .ok (.iload_n 1, 1) := by decide +kernel
theorem dX11_change_39 : decode cX11_change 39 = .ok (.aload_n 0, 1) := by decide +kernel
theorem dX11_change_40 : decode cX11_change 40 = .ok (.getfield 120, 3) := by decide +kernel
theorem dX11_change_43 : decode cX11_change 43 = .ok (.iload_n 2, 1) := by decide +kernel
theorem dX11_change_44 : decode cX11_change 44 = .ok (.invokevirtual 227, 3) := by decide +kernel
theorem dX11_change_47 : decode cX11_change 47 = .ok (.ifCond .ne 5, 3) := by decide +kernel
theorem dX11_change_50 : decode cX11_change 50 = .ok (.iconst 0, 1) := by decide +kernel
theorem dX11_change_51 : decode cX11_change 51 = .ok (.ireturn, 1) := by decide +kernel
theorem dX11_change_52 : decode cX11_change 52 = .ok (.aload_n 0, 1) := by decide +kernel
theorem dX11_change_53 : decode cX11_change 53 = .ok (.getfield 16, 3) := by decide +kernel
theorem dX11_change_56 : decode cX11_change 56 = .ok (.getfield 138, 3) := by decide +kernel
theorem dX11_change_59 : decode cX11_change 59 = .ok (.iload_n 1, 1) := by decide +kernel
theorem dX11_change_60 : decode cX11_change 60 = .ok (.aaload, 1) := by decide +kernel
theorem dX11_change_61 : decode cX11_change 61 = .ok (.iload_n 2, 1) := by decide +kernel
theorem dX11_change_62 : decode cX11_change 62 = .ok (.putfield 195, 3) := by decide +kernel
theorem dX11_change_65 : decode cX11_change 65 = .ok (.iconst 1, 1) := by decide +kernel
theorem dX11_change_66 : decode cX11_change 66 = .ok (.ireturn, 1) := by decide +kernel
theorem dX11_feel_0 : decode cX11_feel 0 = .ok (.iload_n 1, 1) := by decide +kernel
theorem dX11_feel_1 : decode cX11_feel 1 = .ok (.ifCond .lt 32, 3) := by decide +kernel
theorem dX11_feel_4 : decode cX11_feel 4 = .ok (.iload_n 1, 1) := by decide +kernel
theorem dX11_feel_5 : decode cX11_feel 5 = .ok (.aload_n 0, 1) := by decide +kernel
theorem dX11_feel_6 : decode cX11_feel 6 = .ok (.getfield 23, 3) := by decide +kernel
theorem dX11_feel_9 : decode cX11_feel 9 = .ok (.getfield 117, 3) := by decide +kernel
theorem dX11_feel_12 : decode cX11_feel 12 = .ok (.if_icmp .ge 21, 3) := by decide +kernel
theorem dX11_feel_15 : decode cX11_feel 15 = .ok (.iload_n 2, 1) := by decide +kernel
theorem dX11_feel_16 : decode cX11_feel 16 = .ok (.ifCond .lt 17, 3) := by decide +kernel
theorem dX11_feel_19 : decode cX11_feel 19 = .ok (.iload_n 2, 1) := by decide +kernel
theorem dX11_feel_20 : decode cX11_feel 20 = .ok (.aload_n 0, 1) := by decide +kernel
theorem dX11_feel_21 : decode cX11_feel 21 = .ok (.getfield 16, 3) := by decide +kernel
theorem dX11_feel_24 : decode cX11_feel 24 = .ok (.getfield 131, 3) := by decide +kernel
theorem dX11_feel_27 : decode cX11_feel 27 = .ok (.getfield 135, 3) := by decide +kernel
theorem dX11_feel_30 : decode cX11_feel 30 = .ok (.if_icmp .le 5, 3) := by decide +kernel
theorem dX11_feel_33 : decode cX11_feel 33 = .ok (.iconst (-1), 1) := by decide +kernel
theorem dX11_feel_34 : decode cX11_feel 34 = .ok (.ireturn, 1) := by decide +kernel
theorem dX11_feel_35 : decode cX11_feel 35 = .ok (.iload_n 2, 1) := by decide +kernel
theorem dX11_feel_36 : decode cX11_feel 36 = .ok (.ifCond .ne 15, 3) := by decide +kernel
theorem dX11_feel_39 : decode cX11_feel 39 = .ok (.aload_n 0, 1) := by decide +kernel
theorem dX11_feel_40 : decode cX11_feel 40 = .ok (.getfield 23, 3) := by decide +kernel
theorem dX11_feel_43 : decode cX11_feel 43 = .ok (.getfield 230, 3) := by decide +kernel
theorem dX11_feel_46 : decode cX11_feel 46 = .ok (.iload_n 1, 1) := by decide +kernel
theorem dX11_feel_47 : decode cX11_feel 47 = .ok (.iaload, 1) := by decide +kernel
theorem dX11_feel_48 : decode cX11_feel 48 = .ok (.goto 14, 3) := by decide +kernel
theorem dX11_feel_51 : decode cX11_feel 51 = .ok (.aload_n 0, 1) := by decide +kernel
theorem dX11_feel_52 : decode cX11_feel 52 = .ok (.getfield 23, 3) := by decide +kernel
theorem dX11_feel_55 : decode cX11_feel 55 = .ok (.iload_n 1, 1) := by decide +kernel
theorem dX11_feel_56 : decode cX11_feel 56 = .ok (.iload_n 2, 1) := by decide +kernel
theorem dX11_feel_57 : decode cX11_feel 57 = .ok (.iconst 1, 1) := by decide +kernel
theorem dX11_feel_58 : decode cX11_feel 58 = .ok (.isub, 1) := by decide +kernel
theorem dX11_feel_59 : decode cX11_feel 59 = .ok (.invokevirtual 233, 3) := by decide +kernel
theorem dX11_feel_62 : decode cX11_feel 62 = .ok (.ireturn, 1) := by decide +kernel
theorem dX11_doubt_0 : decode cX11_doubt 0 = .ok (.iload_n 1, 1) := by decide +kernel
theorem dX11_doubt_1 : decode cX11_doubt 1 = .ok (.iconst 0, 1) := by decide +kernel
theorem dX11_doubt_2 : decode cX11_doubt 2 = .ok (.bipush 99, 2) := by decide +kernel
theorem dX11_doubt_4 : decode cX11_doubt 4 = .ok (.invokestatic 123, 3) := by decide +kernel
theorem dX11_doubt_7 : decode cX11_doubt 7 = .ok (.ifCond .ne 5, 3) := by decide +kernel
theorem dX11_doubt_10 : decode cX11_doubt 10 = .ok (.iconst 0, 1) := by decide +kernel
theorem dX11_doubt_11 : decode cX11_doubt 11 = .ok (.ireturn, 1) := by decide +kernel
theorem dX11_doubt_12 : decode cX11_doubt 12 = .ok (.aload_n 0, 1) := by decide +kernel
theorem dX11_doubt_13 : decode cX11_doubt 13 = .ok (.getfield 23, 3) := by decide +kernel
theorem dX11_doubt_16 : decode cX11_doubt 16 = .ok (.iload_n 1, 1) := by decide +kernel
theorem dX11_doubt_17 : decode cX11_doubt 17 = .ok (.putfield 236, 3) := by decide +kernel
theorem dX11_doubt_20 : decode cX11_doubt 20 = .ok (.iconst 1, 1) := by decide +kernel
theorem dX11_doubt_21 : decode cX11_doubt 21 = .ok (.ireturn, 1) := by decide +kernel
theorem dX11_may_0 : decode cX11_may 0 = .ok (.aload_n 0, 1) := by decide +kernel
theorem dX11_may_1 : decode cX11_may 1 = .ok (.getfield 16, 3) := by decide +kernel
theorem dX11_may_4 : decode cX11_may 4 = .ok (.iload_n 1, 1) := by decide +kernel
theorem dX11_may_5 : decode cX11_may 5 = .ok (.invokevirtual 154, 3) := by decide +kernel
theorem dX11_may_8 : decode cX11_may 8 = .ok (.ifCond .ne 5, 3) := by decide +kernel
theorem dX11_may_11 : decode cX11_may 11 = .ok (.iconst (-1), 1) := by decide +kernel
theorem dX11_may_12 : decode cX11_may 12 = .ok (.ireturn, 1) := by decide +kernel
theorem dX11_may_13 : decode cX11_may 13 = .ok (.aload_n 0, 1) := by decide +kernel
theorem dX11_may_14 : decode cX11_may 14 = .ok (.getfield 48, 3) := by decide +kernel
theorem dX11_may_17 : decode cX11_may 17 = .ok (.iload_n 1, 1) := by decide +kernel
theorem dX11_may_18 : decode cX11_may 18 = .ok (.invokevirtual 239, 3) := by decide +kernel
theorem dX11_may_21 : decode cX11_may 21 = .ok (.iload_n 2, 1) := by decide +kernel
theorem dX11_may_22 : decode cX11_may 22 = .ok (.iconst (-1), 1) := by decide +kernel
theorem dX11_may_23 : decode cX11_may 23 = .ok (.if_icmp .ne 13, 3) := by decide +kernel
theorem dX11_may_26 : decode cX11_may 26 = .ok (.aload_n 0, 1) := by decide +kernel
theorem dX11_may_27 : decode cX11_may 27 = .ok (.getfield 48, 3) := by decide +kernel
theorem dX11_may_30 : decode cX11_may 30 = .ok (.invokevirtual 242, 3) := by decide +kernel
theorem dX11_may_33 : decode cX11_may 33 = .ok (.goto 11, 3) := by decide +kernel
theorem dX11_may_36 : decode cX11_may 36 = .ok (.aload_n 0, 1) := by decide +kernel
theorem dX11_may_37 : decode cX11_may 37 = .ok (.getfield 48, 3) := by decide +kernel
theorem dX11_may_40 : decode cX11_may 40 = .ok (.iload_n 2, 1) := by decide +kernel
theorem dX11_may_41 : decode cX11_may 41 = .ok (.invokevirtual 245, 3) := by decide +kernel
theorem dX11_may_44 : decode cX11_may 44 = .ok (.ireturn, 1) := by decide +kernel
theorem dX11_cover_0 : decode cX11_cover 0 = .ok (.aload_n 0, 1) := by decide +kernel
theorem dX11_cover_1 : decode cX11_cover 1 = .ok (.getfield 16, 3) := by decide +kernel
theorem dX11_cover_4 : decode cX11_cover 4 = .ok (.iload_n 1, 1) := by decide +kernel
theorem dX11_cover_5 : decode cX11_cover 5 = .ok (.invokevirtual 154, 3) := by decide +kernel
theorem dX11_cover_8 : decode cX11_cover 8 = .ok (.ifCond .ne 5, 3) := by decide +kernel
theorem dX11_cover_11 : decode cX11_cover 11 = .ok (.iconst (-1), 1) := by decide +kernel
theorem dX11_cover_12 : decode cX11_cover 12 = .ok (.ireturn, 1) := by decide +kernel
theorem dX11_cover_13 : decode cX11_cover 13 = .ok (.aload_n 0, 1) := by decide +kernel
theorem dX11_cover_14 : decode cX11_cover 14 = .ok (.getfield 48, 3) := by decide +kernel
theorem dX11_cover_17 : decode cX11_cover 17 = .ok (.iload_n 1, 1) := by decide +kernel
theorem dX11_cover_18 : decode cX11_cover 18 = .ok (.invokevirtual 248, 3) := by decide +kernel
theorem dX11_cover_21 : decode cX11_cover 21 = .ok (.iload_n 2, 1) := by decide +kernel
theorem dX11_cover_22 : decode cX11_cover 22 = .ok (.iconst (-1), 1) := by decide +kernel
theorem dX11_cover_23 : decode cX11_cover 23 = .ok (.if_icmp .ne 11, 3) := by decide +kernel
theorem dX11_cover_26 : decode cX11_cover 26 = .ok (.aload_n 0, 1) := by decide +kernel
theorem dX11_cover_27 : decode cX11_cover 27 = .ok (.getfield 48, 3) := by decide +kernel
theorem dX11_cover_30 : decode cX11_cover 30 = .ok (.getfield 251, 3) := by decide +kernel
theorem dX11_cover_33 : decode cX11_cover 33 = .ok (.ireturn, 1) := by decide +kernel
theorem dX11_cover_34 : decode cX11_cover 34 = .ok (.iload_n 2, 1) := by decide +kernel
theorem dX11_cover_35 : decode cX11_cover 35 = .ok (.ifCond .lt 14, 3) := by decide +kernel
theorem dX11_cover_38 : decode cX11_cover 38 = .ok (.iload_n 2, 1) := by decide +kernel
theorem dX11_cover_39 : decode cX11_cover 39 = .ok (.aload_n 0, 1) := by decide +kernel
theorem dX11_cover_40 : decode cX11_cover 40 = .ok (.getfield 48, 3) := by decide +kernel
theorem dX11_cover_43 : decode cX11_cover 43 = .ok (.getfield 251, 3) := by decide +kernel
theorem dX11_cover_46 : decode cX11_cover 46 = .ok (.if_icmp .lt 7, 3) := by decide +kernel
theorem dX11_cover_49 : decode cX11_cover 49 = .ok (.iconst (-1), 1) := by decide +kernel
theorem dX11_cover_50 : decode cX11_cover 50 = .ok (.goto 12, 3) := by decide +kernel
theorem dX11_cover_53 : decode cX11_cover 53 = .ok (.aload_n 0, 1) := by decide +kernel
theorem dX11_cover_54 : decode cX11_cover 54 = .ok (.getfield 48, 3) := by decide +kernel
theorem dX11_cover_57 : decode cX11_cover 57 = .ok (.getfield 254, 3) := by decide +kernel
theorem dX11_cover_60 : decode cX11_cover 60 = .ok (.iload_n 2, 1) := by decide +kernel
theorem dX11_cover_61 : decode cX11_cover 61 = .ok (.iaload, 1) := by decide +kernel
theorem dX11_cover_62 : decode cX11_cover 62 = .ok (.ireturn, 1) := by decide +kernel
theorem dX11_seek_0 : decode cX11_seek 0 = .ok (.aload_n 0, 1) := by decide +kernel
theorem dX11_seek_1 : decode cX11_seek 1 = .ok (.getfield 16, 3) := by decide +kernel
theorem dX11_seek_4 : decode cX11_seek 4 = .ok (.getfield 131, 3) := by decide +kernel
theorem dX11_seek_7 : decode cX11_seek 7 = .ok (.getfield 135, 3) := by decide +kernel
theorem dX11_seek_10 : decode cX11_seek 10 = .ok (.ifCond .eq 12, 3) := by decide +kernel
theorem dX11_seek_13 : decode cX11_seek 13 = .ok (.iload_n 1, 1) := by decide +kernel
theorem dX11_seek_14 : decode cX11_seek 14 = .ok (.iconst 0, 1) := by decide +kernel
theorem dX11_seek_15 : decode cX11_seek 15 = .ok (.iconst 3, 1) := by decide +kernel
theorem dX11_seek_16 : decode cX11_seek 16 = .ok (.invokestatic 123, 3) := by decide +kernel
theorem dX11_seek_19 : decode cX11_seek 19 = .ok (.ifCond .ne 7, 3) := by decide +kernel
theorem dX11_seek_22 : decode cX11_seek 22 = .ok (.ldc2_w 257, 3) := by decide +kernel
theorem dX11_seek_25 : decode cX11_seek 25 = .ok (.lreturn, 1) := by decide +kernel
theorem dX11_seek_26 : decode cX11_seek 26 = .ok (.aload_n 0, 1) := by decide +kernel
theorem dX11_seek_27 : decode cX11_seek 27 = .ok (.getfield 57, 3) := by decide +kernel
theorem dX11_seek_30 : decode cX11_seek 30 = .ok (.invokevirtual 259, 3) := by decide +kernel
theorem dX11_seek_33 : decode cX11_seek 33 = .ok (.ifCond .ne 7, 3) := by decide +kernel
theorem dX11_seek_36 : decode cX11_seek 36 = .ok (.ldc2_w 263, 3) := by decide +kernel
theorem dX11_seek_39 : decode cX11_seek 39 = .ok (.lreturn, 1) := by decide +kernel
theorem dX11_seek_40 : decode cX11_seek 40 = .ok (.aload_n 0, 1) := by decide +kernel
theorem dX11_seek_41 : decode cX11_seek 41 = .ok (.getfield 57, 3) := by decide +kernel
theorem dX11_seek_44 : decode cX11_seek 44 = .ok (.iconst 0, 1) := by decide +kernel
theorem dX11_seek_45 : decode cX11_seek 45 = .ok (.invokevirtual 265, 3) := by decide +kernel
theorem dX11_seek_48 : decode cX11_seek 48 = .ok (.iload_n 1, 1) := by decide +kernel
theorem dX11_seek_49 : decode cX11_seek 49 = .ok (.tableswitch 53 0 2 #[27, 36, 45], 27) := by decide +kernel
theorem dX11_seek_76 : decode cX11_seek 76 = .ok (.aload_n 0, 1) := by decide +kernel
theorem dX11_seek_77 : decode cX11_seek 77 = .ok (.getfield 57, 3) := by decide +kernel
theorem dX11_seek_80 : decode cX11_seek 80 = .ok (.getfield 268, 3) := by decide +kernel
theorem dX11_seek_83 : decode cX11_seek 83 = .ok (.i2l, 1) := by decide +kernel
theorem dX11_seek_84 : decode cX11_seek 84 = .ok (.lreturn, 1) := by decide +kernel
theorem dX11_seek_85 : decode cX11_seek 85 = .ok (.aload_n 0, 1) := by decide +kernel
theorem dX11_seek_86 : decode cX11_seek 86 = .ok (.getfield 57, 3) := by decide +kernel
theorem dX11_seek_89 : decode cX11_seek 89 = .ok (.getfield 271, 3) := by decide +kernel
theorem dX11_seek_92 : decode cX11_seek 92 = .ok (.i2l, 1) := by decide +kernel
theorem dX11_seek_93 : decode cX11_seek 93 = .ok (.lreturn, 1) := by decide +kernel
theorem dX11_seek_94 : decode cX11_seek 94 = .ok (.aload_n 0, 1) := by decide +kernel
theorem dX11_seek_95 : decode cX11_seek 95 = .ok (.getfield 57, 3) := by decide +kernel
theorem dX11_seek_98 : decode cX11_seek 98 = .ok (.getfield 272, 3) := by decide +kernel
theorem dX11_seek_101 : decode cX11_seek 101 = .ok (.lreturn, 1) := by decide +kernel
theorem dX11_seek_102 : decode cX11_seek 102 = .ok (.aload_n 0, 1) := by decide +kernel
theorem dX11_seek_103 : decode cX11_seek 103 = .ok (.getfield 57, 3) := by decide +kernel
theorem dX11_seek_106 : decode cX11_seek 106 = .ok (.getfield 276, 3) := by decide +kernel
theorem dX11_seek_109 : decode cX11_seek 109 = .ok (.lreturn, 1) := by decide +kernel
theorem dX11_best_0 : decode cX11_best 0 = .ok (.aload_n 0, 1) := by decide +kernel
theorem dX11_best_1 : decode cX11_best 1 = .ok (.getfield 16, 3) := by decide +kernel
theorem dX11_best_4 : decode cX11_best 4 = .ok (.getfield 131, 3) := by decide +kernel
theorem dX11_best_7 : decode cX11_best 7 = .ok (.getfield 135, 3) := by decide +kernel
theorem dX11_best_10 : decode cX11_best 10 = .ok (.ifCond .eq 12, 3) := by decide +kernel
theorem dX11_best_13 : decode cX11_best 13 = .ok (.iload_n 1, 1) := by decide +kernel
theorem dX11_best_14 : decode cX11_best 14 = .ok (.iconst 0, 1) := by decide +kernel
theorem dX11_best_15 : decode cX11_best 15 = .ok (.iconst 1, 1) := by decide +kernel
theorem dX11_best_16 : decode cX11_best 16 = .ok (.invokestatic 123, 3) := by decide +kernel
theorem dX11_best_19 : decode cX11_best 19 = .ok (.ifCond .ne 7, 3) := by decide +kernel
theorem dX11_best_22 : decode cX11_best 22 = .ok (.ldc2_w 257, 3) := by decide +kernel
theorem dX11_best_25 : decode cX11_best 25 = .ok (.lreturn, 1) := by decide +kernel
theorem dX11_best_26 : decode cX11_best 26 = .ok (.aload_n 0, 1) := by decide +kernel
theorem dX11_best_27 : decode cX11_best 27 = .ok (.getfield 57, 3) := by decide +kernel
theorem dX11_best_30 : decode cX11_best 30 = .ok (.invokevirtual 259, 3) := by decide +kernel
theorem dX11_best_33 : decode cX11_best 33 = .ok (.ifCond .ne 7, 3) := by decide +kernel
theorem dX11_best_36 : decode cX11_best 36 = .ok (.ldc2_w 263, 3) := by decide +kernel
theorem dX11_best_39 : decode cX11_best 39 = .ok (.lreturn, 1) := by decide +kernel
theorem dX11_best_40 : decode cX11_best 40 = .ok (.aload_n 0, 1) := by decide +kernel
theorem dX11_best_41 : decode cX11_best 41 = .ok (.getfield 57, 3) := by decide +kernel
theorem dX11_best_44 : decode cX11_best 44 = .ok (.invokevirtual 278, 3) := by decide +kernel
theorem dX11_best_47 : decode cX11_best 47 = .ok (.iload_n 1, 1) := by decide +kernel
theorem dX11_best_48 : decode cX11_best 48 = .ok (.ifCond .ne 14, 3) := by decide +kernel
theorem dX11_best_51 : decode cX11_best 51 = .ok (.aload_n 0, 1) := by decide +kernel
theorem dX11_best_52 : decode cX11_best 52 = .ok (.getfield 57, 3) := by decide +kernel
theorem dX11_best_55 : decode cX11_best 55 = .ok (.getfield 281, 3) := by decide +kernel
theorem dX11_best_58 : decode cX11_best 58 = .ok (.i2l, 1) := by decide +kernel
theorem dX11_best_59 : decode cX11_best 59 = .ok (.goto 10, 3) := by decide +kernel
theorem dX11_best_62 : decode cX11_best 62 = .ok (.aload_n 0, 1) := by decide +kernel
theorem dX11_best_63 : decode cX11_best 63 = .ok (.getfield 57, 3) := by decide +kernel
theorem dX11_best_66 : decode cX11_best 66 = .ok (.getfield 284, 3) := by decide +kernel
theorem dX11_best_69 : decode cX11_best 69 = .ok (.lreturn, 1) := by decide +kernel
theorem dX11_days_0 : decode cX11_days 0 = .ok (.iload_n 1, 1) := by decide +kernel
theorem dX11_days_1 : decode cX11_days 1 = .ok (.iconst 0, 1) := by decide +kernel
theorem dX11_days_2 : decode cX11_days 2 = .ok (.sipush 999, 3) := by decide +kernel
theorem dX11_days_5 : decode cX11_days 5 = .ok (.invokestatic 123, 3) := by decide +kernel
theorem dX11_days_8 : decode cX11_days 8 = .ok (.ifCond .eq 15, 3) := by decide +kernel
theorem dX11_days_11 : decode cX11_days 11 = .ok (.aload_n 0, 1) := by decide +kernel
theorem dX11_days_12 : decode cX11_days 12 = .ok (.getfield 120, 3) := by decide +kernel
theorem dX11_days_15 : decode cX11_days 15 = .ok (.iload_n 1, 1) := by decide +kernel
theorem dX11_days_16 : decode cX11_days 16 = .ok (.iadd, 1) := by decide +kernel
theorem dX11_days_17 : decode cX11_days 17 = .ok (.sipush 999, 3) := by decide +kernel
theorem dX11_days_20 : decode cX11_days 20 = .ok (.if_icmp .le 5, 3) := by decide +kernel
theorem dX11_days_23 : decode cX11_days 23 = .ok (.iconst (-1), 1) := by decide +kernel
theorem dX11_days_24 : decode cX11_days 24 = .ok (.ireturn, 1) := by decide +kernel
theorem dX11_days_25 : decode cX11_days 25 = .ok (.aload_n 0, 1) := by decide +kernel
theorem dX11_days_26 : decode cX11_days 26 = .ok (.dup, 1) := by decide +kernel
theorem dX11_days_27 : decode cX11_days 27 = .ok (.getfield 120, 3) := by decide +kernel
theorem dX11_days_30 : decode cX11_days 30 = .ok (.iload_n 1, 1) := by decide +kernel
theorem dX11_days_31 : decode cX11_days 31 = .ok (.iadd, 1) := by decide +kernel
theorem dX11_days_32 : decode cX11_days 32 = .ok (.putfield 120, 3) := by decide +kernel
theorem dX11_days_35 : decode cX11_days 35 = .ok (.aload_n 0, 1) := by decide +kernel
theorem dX11_days_36 : decode cX11_days 36 = .ok (.getfield 120, 3) := by decide +kernel
theorem dX11_days_39 : decode cX11_days 39 = .ok (.ireturn, 1) := by decide +kernel
theorem dX11_tell_0 : decode cX11_tell 0 = .ok (.iload_n 1, 1) := by decide +kernel
theorem dX11_tell_1 : decode cX11_tell 1 = .ok (.invokestatic 287, 3) := by decide +kernel
theorem dX11_tell_4 : decode cX11_tell 4 = .ok (.ifCond .eq 30, 3) := by decide +kernel
theorem dX11_tell_7 : decode cX11_tell 7 = .ok (.aload_n 0, 1) := by decide +kernel
theorem dX11_tell_8 : decode cX11_tell 8 = .ok (.getfield 16, 3) := by decide +kernel
theorem dX11_tell_11 : decode cX11_tell 11 = .ok (.iload_n 2, 1) := by decide +kernel
theorem dX11_tell_12 : decode cX11_tell 12 = .ok (.invokevirtual 154, 3) := by decide +kernel
theorem dX11_tell_15 : decode cX11_tell 15 = .ok (.ifCond .eq 19, 3) := by decide +kernel
theorem dX11_tell_18 : decode cX11_tell 18 = .ok (.iload_n 3, 1) := by decide +kernel
theorem dX11_tell_19 : decode cX11_tell 19 = .ok (.iconst (-1), 1) := by decide +kernel
theorem dX11_tell_20 : decode cX11_tell 20 = .ok (.if_icmp .eq 16, 3) := by decide +kernel
theorem dX11_tell_23 : decode cX11_tell 23 = .ok (.aload_n 0, 1) := by decide +kernel
theorem dX11_tell_24 : decode cX11_tell 24 = .ok (.getfield 16, 3) := by decide +kernel
theorem dX11_tell_27 : decode cX11_tell 27 = .ok (.iload_n 3, 1) := by decide +kernel
theorem dX11_tell_28 : decode cX11_tell 28 = .ok (.invokevirtual 127, 3) := by decide +kernel
theorem dX11_tell_31 : decode cX11_tell 31 = .ok (.ifCond .ne 5, 3) := by decide +kernel
theorem dX11_tell_34 : decode cX11_tell 34 = .ok (.iconst (-1), 1) := by decide +kernel
theorem dX11_tell_35 : decode cX11_tell 35 = .ok (.ireturn, 1) := by decide +kernel
theorem dX11_tell_36 : decode cX11_tell 36 = .ok (.aload_n 0, 1) := by decide +kernel
theorem dX11_tell_37 : decode cX11_tell 37 = .ok (.getfield 73, 3) := by decide +kernel
theorem dX11_tell_40 : decode cX11_tell 40 = .ok (.iload_n 1, 1) := by decide +kernel
theorem dX11_tell_41 : decode cX11_tell 41 = .ok (.iload_n 2, 1) := by decide +kernel
theorem dX11_tell_42 : decode cX11_tell 42 = .ok (.iload_n 3, 1) := by decide +kernel
theorem dX11_tell_43 : decode cX11_tell 43 = .ok (.aload_n 0, 1) := by decide +kernel
theorem dX11_tell_44 : decode cX11_tell 44 = .ok (.getfield 120, 3) := by decide +kernel
theorem dX11_tell_47 : decode cX11_tell 47 = .ok (.invokevirtual 290, 3) := by decide +kernel
theorem dX11_tell_50 : decode cX11_tell 50 = .ok (.ireturn, 1) := by decide +kernel
theorem dX11_strike_0 : decode cX11_strike 0 = .ok (.iload_n 1, 1) := by decide +kernel
theorem dX11_strike_1 : decode cX11_strike 1 = .ok (.ifCond .lt 14, 3) := by decide +kernel
theorem dX11_strike_4 : decode cX11_strike 4 = .ok (.iload_n 1, 1) := by decide +kernel
theorem dX11_strike_5 : decode cX11_strike 5 = .ok (.aload_n 0, 1) := by decide +kernel
theorem dX11_strike_6 : decode cX11_strike 6 = .ok (.getfield 73, 3) := by decide +kernel
theorem dX11_strike_9 : decode cX11_strike 9 = .ok (.getfield 119, 3) := by decide +kernel
theorem dX11_strike_12 : decode cX11_strike 12 = .ok (.if_icmp .lt 5, 3) := by decide +kernel
theorem dX11_strike_15 : decode cX11_strike 15 = .ok (.iconst (-1), 1) := by decide +kernel
theorem dX11_strike_16 : decode cX11_strike 16 = .ok (.ireturn, 1) := by decide +kernel
theorem dX11_strike_17 : decode cX11_strike 17 = .ok (.aload_n 0, 1) := by decide +kernel
theorem dX11_strike_18 : decode cX11_strike 18 = .ok (.getfield 73, 3) := by decide +kernel
theorem dX11_strike_21 : decode cX11_strike 21 = .ok (.iconst (-1), 1) := by decide +kernel
theorem dX11_strike_22 : decode cX11_strike 22 = .ok (.iconst (-1), 1) := by decide +kernel
theorem dX11_strike_23 : decode cX11_strike 23 = .ok (.iload_n 1, 1) := by decide +kernel
theorem dX11_strike_24 : decode cX11_strike 24 = .ok (.aload_n 0, 1) := by decide +kernel
theorem dX11_strike_25 : decode cX11_strike 25 = .ok (.getfield 120, 3) := by decide +kernel
theorem dX11_strike_28 : decode cX11_strike 28 = .ok (.invokevirtual 290, 3) := by decide +kernel
theorem dX11_strike_31 : decode cX11_strike 31 = .ok (.ireturn, 1) := by decide +kernel
theorem dX11_gate_0 : decode cX11_gate 0 = .ok (.aload_n 0, 1) := by decide +kernel
theorem dX11_gate_1 : decode cX11_gate 1 = .ok (.getfield 16, 3) := by decide +kernel
theorem dX11_gate_4 : decode cX11_gate 4 = .ok (.iload_n 1, 1) := by decide +kernel
theorem dX11_gate_5 : decode cX11_gate 5 = .ok (.invokevirtual 154, 3) := by decide +kernel
theorem dX11_gate_8 : decode cX11_gate 8 = .ok (.ifCond .eq 10, 3) := by decide +kernel
theorem dX11_gate_11 : decode cX11_gate 11 = .ok (.iload_n 2, 1) := by decide +kernel
theorem dX11_gate_12 : decode cX11_gate 12 = .ok (.invokestatic 293, 3) := by decide +kernel
theorem dX11_gate_15 : decode cX11_gate 15 = .ok (.ifCond .ne 5, 3) := by decide +kernel
theorem dX11_gate_18 : decode cX11_gate 18 = .ok (.iconst (-1), 1) := by decide +kernel
theorem dX11_gate_19 : decode cX11_gate 19 = .ok (.ireturn, 1) := by decide +kernel
theorem dX11_gate_20 : decode cX11_gate 20 = .ok (.aload_n 0, 1) := by decide +kernel
theorem dX11_gate_21 : decode cX11_gate 21 = .ok (.getfield 64, 3) := by decide +kernel
theorem dX11_gate_24 : decode cX11_gate 24 = .ok (.iload_n 2, 1) := by decide +kernel
theorem dX11_gate_25 : decode cX11_gate 25 = .ok (.iload_n 1, 1) := by decide +kernel
theorem dX11_gate_26 : decode cX11_gate 26 = .ok (.aload_n 0, 1) := by decide +kernel
theorem dX11_gate_27 : decode cX11_gate 27 = .ok (.getfield 16, 3) := by decide +kernel
theorem dX11_gate_30 : decode cX11_gate 30 = .ok (.getfield 138, 3) := by decide +kernel
theorem dX11_gate_33 : decode cX11_gate 33 = .ok (.iload_n 1, 1) := by decide +kernel
theorem dX11_gate_34 : decode cX11_gate 34 = .ok (.aaload, 1) := by decide +kernel
theorem dX11_gate_35 : decode cX11_gate 35 = .ok (.getfield 296, 3) := by decide +kernel
theorem dX11_gate_38 : decode cX11_gate 38 = .ok (.invokevirtual 299, 3) := by decide +kernel
theorem dX11_gate_41 : decode cX11_gate 41 = .ok (.ireturn, 1) := by decide +kernel
theorem dX11_knows_0 : decode cX11_knows 0 = .ok (.iload_n 1, 1) := by decide +kernel
theorem dX11_knows_1 : decode cX11_knows 1 = .ok (.invokestatic 287, 3) := by decide +kernel
theorem dX11_knows_4 : decode cX11_knows 4 = .ok (.ifCond .eq 22, 3) := by decide +kernel
theorem dX11_knows_7 : decode cX11_knows 7 = .ok (.iload_n 2, 1) := by decide +kernel
theorem dX11_knows_8 : decode cX11_knows 8 = .ok (.invokestatic 293, 3) := by decide +kernel
theorem dX11_knows_11 : decode cX11_knows 11 = .ok (.ifCond .eq 15, 3) := by decide +kernel
theorem dX11_knows_14 : decode cX11_knows 14 = .ok (.iload_n 3, 1) := by decide +kernel
theorem dX11_knows_15 : decode cX11_knows 15 = .ok (.invokestatic 293, 3) := by decide +kernel
theorem dX11_knows_18 : decode cX11_knows 18 = .ok (.ifCond .eq 8, 3) := by decide +kernel
theorem dX11_knows_21 : decode cX11_knows 21 = .ok (.iload_n 2, 1) := by decide +kernel
theorem dX11_knows_22 : decode cX11_knows 22 = .ok (.iload_n 3, 1) := by decide +kernel
theorem dX11_knows_23 : decode cX11_knows 23 = .ok (.if_icmp .le 5, 3) := by decide +kernel
theorem dX11_knows_26 : decode cX11_knows 26 = .ok (.iconst (-1), 1) := by decide +kernel
theorem dX11_knows_27 : decode cX11_knows 27 = .ok (.ireturn, 1) := by decide +kernel
theorem dX11_knows_28 : decode cX11_knows 28 = .ok (.aload_n 0, 1) := by decide +kernel
theorem dX11_knows_29 : decode cX11_knows 29 = .ok (.getfield 73, 3) := by decide +kernel
theorem dX11_knows_32 : decode cX11_knows 32 = .ok (.iload_n 3, 1) := by decide +kernel
theorem dX11_knows_33 : decode cX11_knows 33 = .ok (.invokevirtual 302, 3) := by decide +kernel
theorem dX11_knows_36 : decode cX11_knows 36 = .ok (.aload_n 0, 1) := by decide +kernel
theorem dX11_knows_37 : decode cX11_knows 37 = .ok (.getfield 73, 3) := by decide +kernel
theorem dX11_knows_40 : decode cX11_knows 40 = .ok (.iload_n 1, 1) := by decide +kernel
theorem dX11_knows_41 : decode cX11_knows 41 = .ok (.iload_n 2, 1) := by decide +kernel
theorem dX11_knows_42 : decode cX11_knows 42 = .ok (.invokevirtual 305, 3) := by decide +kernel
theorem dX11_knows_45 : decode cX11_knows 45 = .ok (.ireturn, 1) := by decide +kernel
theorem dX11_can_0 : decode cX11_can 0 = .ok (.iload_n 1, 1) := by decide +kernel
theorem dX11_can_1 : decode cX11_can 1 = .ok (.invokestatic 293, 3) := by decide +kernel
theorem dX11_can_4 : decode cX11_can 4 = .ok (.ifCond .eq 15, 3) := by decide +kernel
theorem dX11_can_7 : decode cX11_can 7 = .ok (.iload_n 2, 1) := by decide +kernel
theorem dX11_can_8 : decode cX11_can 8 = .ok (.invokestatic 293, 3) := by decide +kernel
theorem dX11_can_11 : decode cX11_can 11 = .ok (.ifCond .eq 8, 3) := by decide +kernel
theorem dX11_can_14 : decode cX11_can 14 = .ok (.iload_n 1, 1) := by decide +kernel
theorem dX11_can_15 : decode cX11_can 15 = .ok (.iload_n 2, 1) := by decide +kernel
theorem dX11_can_16 : decode cX11_can 16 = .ok (.if_icmp .le 5, 3) := by decide +kernel
theorem dX11_can_19 : decode cX11_can 19 = .ok (.iconst (-1), 1) := by decide +kernel
theorem dX11_can_20 : decode cX11_can 20 = .ok (.ireturn, 1) := by decide +kernel
theorem dX11_can_21 : decode cX11_can 21 = .ok (.aload_n 0, 1) := by decide +kernel
theorem dX11_can_22 : decode cX11_can 22 = .ok (.getfield 73, 3) := by decide +kernel
theorem dX11_can_25 : decode cX11_can 25 = .ok (.iload_n 2, 1) := by decide +kernel
theorem dX11_can_26 : decode cX11_can 26 = .ok (.invokevirtual 302, 3) := by decide +kernel
theorem dX11_can_29 : decode cX11_can 29 = .ok (.aload_n 0, 1) := by decide +kernel
theorem dX11_can_30 : decode cX11_can 30 = .ok (.getfield 73, 3) := by decide +kernel
theorem dX11_can_33 : decode cX11_can 33 = .ok (.iload_n 1, 1) := by decide +kernel
theorem dX11_can_34 : decode cX11_can 34 = .ok (.invokevirtual 308, 3) := by decide +kernel
theorem dX11_can_37 : decode cX11_can 37 = .ok (.ireturn, 1) := by decide +kernel
theorem dX11_count_0 : decode cX11_count 0 = .ok (.iload_n 1, 1) := by decide +kernel
theorem dX11_count_1 : decode cX11_count 1 = .ok (.tableswitch 117 0 7 #[47, 58, 69, 77, 85, 96, 104, 109], 47) := by decide +kernel
theorem dX11_count_48 : decode cX11_count 48 = .ok (.aload_n 0, 1) := by decide +kernel
theorem dX11_count_49 : decode cX11_count 49 = .ok (.getfield 16, 3) := by decide +kernel
theorem dX11_count_52 : decode cX11_count 52 = .ok (.getfield 131, 3) := by decide +kernel
theorem dX11_count_55 : decode cX11_count 55 = .ok (.getfield 311, 3) := by decide +kernel
theorem dX11_count_58 : decode cX11_count 58 = .ok (.ireturn, 1) := by decide +kernel
theorem dX11_count_59 : decode cX11_count 59 = .ok (.aload_n 0, 1) := by decide +kernel
theorem dX11_count_60 : decode cX11_count 60 = .ok (.getfield 16, 3) := by decide +kernel
theorem dX11_count_63 : decode cX11_count 63 = .ok (.getfield 131, 3) := by decide +kernel
theorem dX11_count_66 : decode cX11_count 66 = .ok (.getfield 135, 3) := by decide +kernel
theorem dX11_count_69 : decode cX11_count 69 = .ok (.ireturn, 1) := by decide +kernel
theorem dX11_count_70 : decode cX11_count 70 = .ok (.aload_n 0, 1) := by decide +kernel
theorem dX11_count_71 : decode cX11_count 71 = .ok (.getfield 23, 3) := by decide +kernel
theorem dX11_count_74 : decode cX11_count 74 = .ok (.getfield 117, 3) := by decide +kernel
theorem dX11_count_77 : decode cX11_count 77 = .ok (.ireturn, 1) := by decide +kernel
theorem dX11_count_78 : decode cX11_count 78 = .ok (.aload_n 0, 1) := by decide +kernel
theorem dX11_count_79 : decode cX11_count 79 = .ok (.getfield 73, 3) := by decide +kernel
theorem dX11_count_82 : decode cX11_count 82 = .ok (.getfield 119, 3) := by decide +kernel
theorem dX11_count_85 : decode cX11_count 85 = .ok (.ireturn, 1) := by decide +kernel
theorem dX11_count_86 : decode cX11_count 86 = .ok (.aload_n 0, 1) := by decide +kernel
theorem dX11_count_87 : decode cX11_count 87 = .ok (.getfield 16, 3) := by decide +kernel
theorem dX11_count_90 : decode cX11_count 90 = .ok (.getfield 131, 3) := by decide +kernel
theorem dX11_count_93 : decode cX11_count 93 = .ok (.getfield 172, 3) := by decide +kernel
theorem dX11_count_96 : decode cX11_count 96 = .ok (.ireturn, 1) := by decide +kernel
theorem dX11_count_97 : decode cX11_count 97 = .ok (.aload_n 0, 1) := by decide +kernel
theorem dX11_count_98 : decode cX11_count 98 = .ok (.getfield 16, 3) := by decide +kernel
theorem dX11_count_101 : decode cX11_count 101 = .ok (.getfield 216, 3) := by decide +kernel
theorem dX11_count_104 : decode cX11_count 104 = .ok (.ireturn, 1) := by decide +kernel
theorem dX11_count_105 : decode cX11_count 105 = .ok (.aload_n 0, 1) := by decide +kernel
theorem dX11_count_106 : decode cX11_count 106 = .ok (.getfield 120, 3) := by decide +kernel
theorem dX11_count_109 : decode cX11_count 109 = .ok (.ireturn, 1) := by decide +kernel
theorem dX11_count_110 : decode cX11_count 110 = .ok (.aload_n 0, 1) := by decide +kernel
theorem dX11_count_111 : decode cX11_count 111 = .ok (.getfield 23, 3) := by decide +kernel
theorem dX11_count_114 : decode cX11_count 114 = .ok (.getfield 236, 3) := by decide +kernel
theorem dX11_count_117 : decode cX11_count 117 = .ok (.ireturn, 1) := by decide +kernel
theorem dX11_count_118 : decode cX11_count 118 = .ok (.iconst (-1), 1) := by decide +kernel
theorem dX11_count_119 : decode cX11_count 119 = .ok (.ireturn, 1) := by decide +kernel
theorem dX11_putFour_0 : decode cX11_putFour 0 = .ok (.bipush 24, 2) := by decide +kernel
theorem dX11_putFour_2 : decode cX11_putFour 2 = .ok (.istore_n 2, 1) := by decide +kernel
theorem dX11_putFour_3 : decode cX11_putFour 3 = .ok (.iload_n 2, 1) := by decide +kernel
theorem dX11_putFour_4 : decode cX11_putFour 4 = .ok (.ifCond .lt 42, 3) := by decide +kernel
theorem dX11_putFour_7 : decode cX11_putFour 7 = .ok (.aload_n 0, 1) := by decide +kernel
theorem dX11_putFour_8 : decode cX11_putFour 8 = .ok (.getfield 77, 3) := by decide +kernel
theorem dX11_putFour_11 : decode cX11_putFour 11 = .ok (.sipush 500, 3) := by decide +kernel
theorem dX11_putFour_14 : decode cX11_putFour 14 = .ok (.if_icmp .ge 32, 3) := by decide +kernel
theorem dX11_putFour_17 : decode cX11_putFour 17 = .ok (.aload_n 0, 1) := by decide +kernel
theorem dX11_putFour_18 : decode cX11_putFour 18 = .ok (.getfield 9, 3) := by decide +kernel
theorem dX11_putFour_21 : decode cX11_putFour 21 = .ok (.aload_n 0, 1) := by decide +kernel
theorem dX11_putFour_22 : decode cX11_putFour 22 = .ok (.getfield 77, 3) := by decide +kernel
theorem dX11_putFour_25 : decode cX11_putFour 25 = .ok (.iload_n 1, 1) := by decide +kernel
theorem dX11_putFour_26 : decode cX11_putFour 26 = .ok (.iload_n 2, 1) := by decide +kernel
theorem dX11_putFour_27 : decode cX11_putFour 27 = .ok (.ishr, 1) := by decide +kernel
theorem dX11_putFour_28 : decode cX11_putFour 28 = .ok (.i2b, 1) := by decide +kernel
theorem dX11_putFour_29 : decode cX11_putFour 29 = .ok (.bastore, 1) := by decide +kernel
theorem dX11_putFour_30 : decode cX11_putFour 30 = .ok (.aload_n 0, 1) := by decide +kernel
theorem dX11_putFour_31 : decode cX11_putFour 31 = .ok (.dup, 1) := by decide +kernel
theorem dX11_putFour_32 : decode cX11_putFour 32 = .ok (.getfield 77, 3) := by decide +kernel
theorem dX11_putFour_35 : decode cX11_putFour 35 = .ok (.iconst 1, 1) := by decide +kernel
theorem dX11_putFour_36 : decode cX11_putFour 36 = .ok (.iadd, 1) := by decide +kernel
theorem dX11_putFour_37 : decode cX11_putFour 37 = .ok (.putfield 77, 3) := by decide +kernel
theorem dX11_putFour_40 : decode cX11_putFour 40 = .ok (.iinc 2 (-8), 3) := by decide +kernel
theorem dX11_putFour_43 : decode cX11_putFour 43 = .ok (.goto (-40), 3) := by decide +kernel
theorem dX11_putFour_46 : decode cX11_putFour 46 = .ok (.return_, 1) := by decide +kernel
theorem dX11_isWithin_0 : decode cX11_isWithin 0 = .ok (.iload_n 0, 1) := by decide +kernel
theorem dX11_isWithin_1 : decode cX11_isWithin 1 = .ok (.iload_n 1, 1) := by decide +kernel
theorem dX11_isWithin_2 : decode cX11_isWithin 2 = .ok (.if_icmp .lt 12, 3) := by decide +kernel
theorem dX11_isWithin_5 : decode cX11_isWithin 5 = .ok (.iload_n 0, 1) := by decide +kernel
theorem dX11_isWithin_6 : decode cX11_isWithin 6 = .ok (.iload_n 2, 1) := by decide +kernel
theorem dX11_isWithin_7 : decode cX11_isWithin 7 = .ok (.if_icmp .gt 7, 3) := by decide +kernel
theorem dX11_isWithin_10 : decode cX11_isWithin 10 = .ok (.iconst 1, 1) := by decide +kernel
theorem dX11_isWithin_11 : decode cX11_isWithin 11 = .ok (.goto 4, 3) := by decide +kernel
theorem dX11_isWithin_14 : decode cX11_isWithin 14 = .ok (.iconst 0, 1) := by decide +kernel
theorem dX11_isWithin_15 : decode cX11_isWithin 15 = .ok (.ireturn, 1) := by decide +kernel
theorem dX11_isPerson_0 : decode cX11_isPerson 0 = .ok (.iload_n 0, 1) := by decide +kernel
theorem dX11_isPerson_1 : decode cX11_isPerson 1 = .ok (.iconst 0, 1) := by decide +kernel
theorem dX11_isPerson_2 : decode cX11_isPerson 2 = .ok (.iconst 5, 1) := by decide +kernel
theorem dX11_isPerson_3 : decode cX11_isPerson 3 = .ok (.invokestatic 123, 3) := by decide +kernel
theorem dX11_isPerson_6 : decode cX11_isPerson 6 = .ok (.ireturn, 1) := by decide +kernel
theorem dX11_isDay_0 : decode cX11_isDay 0 = .ok (.iload_n 0, 1) := by decide +kernel
theorem dX11_isDay_1 : decode cX11_isDay 1 = .ok (.iconst 0, 1) := by decide +kernel
theorem dX11_isDay_2 : decode cX11_isDay 2 = .ok (.sipush 999, 3) := by decide +kernel
theorem dX11_isDay_5 : decode cX11_isDay 5 = .ok (.invokestatic 123, 3) := by decide +kernel
theorem dX11_isDay_8 : decode cX11_isDay 8 = .ok (.ireturn, 1) := by decide +kernel
theorem dX12_init_0 : decode cX12_init 0 = .ok (.aload_n 0, 1) := by decide +kernel
theorem dX12_init_1 : decode cX12_init 1 = .ok (.invokespecial 1, 3) := by decide +kernel
theorem dX12_init_4 : decode cX12_init 4 = .ok (.aload_n 0, 1) := by decide +kernel
theorem dX12_init_5 : decode cX12_init 5 = .ok (.sipush 500, 3) := by decide +kernel
theorem dX12_init_8 : decode cX12_init 8 = .ok (.newarray .int, 2) := by decide +kernel
theorem dX12_init_10 : decode cX12_init 10 = .ok (.putfield 7, 3) := by decide +kernel
theorem dX12_init_13 : decode cX12_init 13 = .ok (.aload_n 0, 1) := by decide +kernel
theorem dX12_init_14 : decode cX12_init 14 = .ok (.bipush 20, 2) := by decide +kernel
theorem dX12_init_16 : decode cX12_init 16 = .ok (.putfield 13, 3) := by decide +kernel
theorem dX12_init_19 : decode cX12_init 19 = .ok (.aload_n 0, 1) := by decide +kernel
theorem dX12_init_20 : decode cX12_init 20 = .ok (.iconst 4, 1) := by decide +kernel
theorem dX12_init_21 : decode cX12_init 21 = .ok (.newarray .int, 2) := by decide +kernel
theorem dX12_init_23 : decode cX12_init 23 = .ok (.putfield 17, 3) := by decide +kernel
theorem dX12_init_26 : decode cX12_init 26 = .ok (.aload_n 0, 1) := by decide +kernel
theorem dX12_init_27 : decode cX12_init 27 = .ok (.iconst 4, 1) := by decide +kernel
theorem dX12_init_28 : decode cX12_init 28 = .ok (.newarray .int, 2) := by decide +kernel
theorem dX12_init_30 : decode cX12_init 30 = .ok (.putfield 20, 3) := by decide +kernel
theorem dX12_init_33 : decode cX12_init 33 = .ok (.aload_n 0, 1) := by decide +kernel
theorem dX12_init_34 : decode cX12_init 34 = .ok (.iconst 4, 1) := by decide +kernel
theorem dX12_init_35 : decode cX12_init 35 = .ok (.newarray .int, 2) := by decide +kernel
theorem dX12_init_37 : decode cX12_init 37 = .ok (.putfield 23, 3) := by decide +kernel
theorem dX12_init_40 : decode cX12_init 40 = .ok (.aload_n 0, 1) := by decide +kernel
theorem dX12_init_41 : decode cX12_init 41 = .ok (.iconst 4, 1) := by decide +kernel
theorem dX12_init_42 : decode cX12_init 42 = .ok (.newarray .int, 2) := by decide +kernel
theorem dX12_init_44 : decode cX12_init 44 = .ok (.putfield 26, 3) := by decide +kernel
theorem dX12_init_47 : decode cX12_init 47 = .ok (.aload_n 0, 1) := by decide +kernel
theorem dX12_init_48 : decode cX12_init 48 = .ok (.iconst 4, 1) := by decide +kernel
theorem dX12_init_49 : decode cX12_init 49 = .ok (.newarray .int, 2) := by decide +kernel
theorem dX12_init_51 : decode cX12_init 51 = .ok (.putfield 29, 3) := by decide +kernel
theorem dX12_init_54 : decode cX12_init 54 = .ok (.aload_n 0, 1) := by decide +kernel
theorem dX12_init_55 : decode cX12_init 55 = .ok (.iconst 4, 1) := by decide +kernel
theorem dX12_init_56 : decode cX12_init 56 = .ok (.newarray .int, 2) := by decide +kernel
theorem dX12_init_58 : decode cX12_init 58 = .ok (.putfield 32, 3) := by decide +kernel
theorem dX12_init_61 : decode cX12_init 61 = .ok (.aload_n 0, 1) := by decide +kernel
theorem dX12_init_62 : decode cX12_init 62 = .ok (.iconst 4, 1) := by decide +kernel
theorem dX12_init_63 : decode cX12_init 63 = .ok (.newarray .int, 2) := by decide +kernel
theorem dX12_init_65 : decode cX12_init 65 = .ok (.putfield 35, 3) := by decide +kernel
theorem dX12_init_68 : decode cX12_init 68 = .ok (.aload_n 0, 1) := by decide +kernel
theorem dX12_init_69 : decode cX12_init 69 = .ok (.iconst 4, 1) := by decide +kernel
theorem dX12_init_70 : decode cX12_init 70 = .ok (.newarray .int, 2) := by decide +kernel
theorem dX12_init_72 : decode cX12_init 72 = .ok (.putfield 38, 3) := by decide +kernel
theorem dX12_init_75 : decode cX12_init 75 = .ok (.aload_n 0, 1) := by decide +kernel
theorem dX12_init_76 : decode cX12_init 76 = .ok (.iconst 4, 1) := by decide +kernel
theorem dX12_init_77 : decode cX12_init 77 = .ok (.newarray .int, 2) := by decide +kernel
theorem dX12_init_79 : decode cX12_init 79 = .ok (.putfield 41, 3) := by decide +kernel
theorem dX12_init_82 : decode cX12_init 82 = .ok (.aload_n 0, 1) := by decide +kernel
theorem dX12_init_83 : decode cX12_init 83 = .ok (.iconst 4, 1) := by decide +kernel
theorem dX12_init_84 : decode cX12_init 84 = .ok (.newarray .int, 2) := by decide +kernel
theorem dX12_init_86 : decode cX12_init 86 = .ok (.putfield 44, 3) := by decide +kernel
theorem dX12_init_89 : decode cX12_init 89 = .ok (.aload_n 0, 1) := by decide +kernel
theorem dX12_init_90 : decode cX12_init 90 = .ok (.sipush 500, 3) := by decide +kernel
theorem dX12_init_93 : decode cX12_init 93 = .ok (.newarray .int, 2) := by decide +kernel
theorem dX12_init_95 : decode cX12_init 95 = .ok (.putfield 47, 3) := by decide +kernel
theorem dX12_init_98 : decode cX12_init 98 = .ok (.aload_n 0, 1) := by decide +kernel
theorem dX12_init_99 : decode cX12_init 99 = .ok (.sipush 4000, 3) := by decide +kernel
theorem dX12_init_102 : decode cX12_init 102 = .ok (.newarray .int, 2) := by decide +kernel
theorem dX12_init_104 : decode cX12_init 104 = .ok (.putfield 50, 3) := by decide +kernel
theorem dX12_init_107 : decode cX12_init 107 = .ok (.aload_n 0, 1) := by decide +kernel
theorem dX12_init_108 : decode cX12_init 108 = .ok (.bipush 36, 2) := by decide +kernel
theorem dX12_init_110 : decode cX12_init 110 = .ok (.newarray .int, 2) := by decide +kernel
theorem dX12_init_112 : decode cX12_init 112 = .ok (.dup, 1) := by decide +kernel
theorem dX12_init_113 : decode cX12_init 113 = .ok (.iconst 0, 1) := by decide +kernel
theorem dX12_init_114 : decode cX12_init 114 = .ok (.bipush 108, 2) := by decide +kernel
theorem dX12_init_116 : decode cX12_init 116 = .ok (.iastore, 1) := by decide +kernel
theorem dX12_init_117 : decode cX12_init 117 = .ok (.dup, 1) := by decide +kernel
theorem dX12_init_118 : decode cX12_init 118 = .ok (.iconst 1, 1) := by decide +kernel
theorem dX12_init_119 : decode cX12_init 119 = .ok (.bipush 101, 2) := by decide +kernel
theorem dX12_init_121 : decode cX12_init 121 = .ok (.iastore, 1) := by decide +kernel
theorem dX12_init_122 : decode cX12_init 122 = .ok (.dup, 1) := by decide +kernel
theorem dX12_init_123 : decode cX12_init 123 = .ok (.iconst 2, 1) := by decide +kernel
theorem dX12_init_124 : decode cX12_init 124 = .ok (.bipush 102, 2) := by decide +kernel
theorem dX12_init_126 : decode cX12_init 126 = .ok (.iastore, 1) := by decide +kernel
theorem dX12_init_127 : decode cX12_init 127 = .ok (.dup, 1) := by decide +kernel
theorem dX12_init_128 : decode cX12_init 128 = .ok (.iconst 3, 1) := by decide +kernel
theorem dX12_init_129 : decode cX12_init 129 = .ok (.bipush 116, 2) := by decide +kernel
theorem dX12_init_131 : decode cX12_init 131 = .ok (.iastore, 1) := by decide +kernel
theorem dX12_init_132 : decode cX12_init 132 = .ok (.dup, 1) := by decide +kernel
theorem dX12_init_133 : decode cX12_init 133 = .ok (.iconst 4, 1) := by decide +kernel
theorem dX12_init_134 : decode cX12_init 134 = .ok (.bipush 32, 2) := by decide +kernel
theorem dX12_init_136 : decode cX12_init 136 = .ok (.iastore, 1) := by decide +kernel
theorem dX12_init_137 : decode cX12_init 137 = .ok (.dup, 1) := by decide +kernel
theorem dX12_init_138 : decode cX12_init 138 = .ok (.iconst 5, 1) := by decide +kernel
theorem dX12_init_139 : decode cX12_init 139 = .ok (.bipush 114, 2) := by decide +kernel
theorem dX12_init_141 : decode cX12_init 141 = .ok (.iastore, 1) := by decide +kernel
theorem dX12_init_142 : decode cX12_init 142 = .ok (.dup, 1) := by decide +kernel
theorem dX12_init_143 : decode cX12_init 143 = .ok (.bipush 6, 2) := by decide +kernel
theorem dX12_init_145 : decode cX12_init 145 = .ok (.bipush 105, 2) := by decide +kernel
theorem dX12_init_147 : decode cX12_init 147 = .ok (.iastore, 1) := by decide +kernel
theorem dX12_init_148 : decode cX12_init 148 = .ok (.dup, 1) := by decide +kernel
theorem dX12_init_149 : decode cX12_init 149 = .ok (.bipush 7, 2) := by decide +kernel
theorem dX12_init_151 : decode cX12_init 151 = .ok (.bipush 103, 2) := by decide +kernel
theorem dX12_init_153 : decode cX12_init 153 = .ok (.iastore, 1) := by decide +kernel
theorem dX12_init_154 : decode cX12_init 154 = .ok (.dup, 1) := by decide +kernel
theorem dX12_init_155 : decode cX12_init 155 = .ok (.bipush 8, 2) := by decide +kernel
theorem dX12_init_157 : decode cX12_init 157 = .ok (.bipush 104, 2) := by decide +kernel
theorem dX12_init_159 : decode cX12_init 159 = .ok (.iastore, 1) := by decide +kernel
theorem dX12_init_160 : decode cX12_init 160 = .ok (.dup, 1) := by decide +kernel
theorem dX12_init_161 : decode cX12_init 161 = .ok (.bipush 9, 2) := by decide +kernel
theorem dX12_init_163 : decode cX12_init 163 = .ok (.bipush 116, 2) := by decide +kernel
theorem dX12_init_165 : decode cX12_init 165 = .ok (.iastore, 1) := by decide +kernel
theorem dX12_init_166 : decode cX12_init 166 = .ok (.dup, 1) := by decide +kernel
theorem dX12_init_167 : decode cX12_init 167 = .ok (.bipush 10, 2) := by decide +kernel
theorem dX12_init_169 : decode cX12_init 169 = .ok (.bipush 32, 2) := by decide +kernel
theorem dX12_init_171 : decode cX12_init 171 = .ok (.iastore, 1) := by decide +kernel
theorem dX12_init_172 : decode cX12_init 172 = .ok (.dup, 1) := by decide +kernel
theorem dX12_init_173 : decode cX12_init 173 = .ok (.bipush 11, 2) := by decide +kernel
theorem dX12_init_175 : decode cX12_init 175 = .ok (.bipush 98, 2) := by decide +kernel
theorem dX12_init_177 : decode cX12_init 177 = .ok (.iastore, 1) := by decide +kernel
theorem dX12_init_178 : decode cX12_init 178 = .ok (.dup, 1) := by decide +kernel
theorem dX12_init_179 : decode cX12_init 179 = .ok (.bipush 12, 2) := by decide +kernel
theorem dX12_init_181 : decode cX12_init 181 = .ok (.bipush 97, 2) := by decide +kernel
theorem dX12_init_183 : decode cX12_init 183 = .ok (.iastore, 1) := by decide +kernel
theorem dX12_init_184 : decode cX12_init 184 = .ok (.dup, 1) := by decide +kernel
theorem dX12_init_185 : decode cX12_init 185 = .ok (.bipush 13, 2) := by decide +kernel
theorem dX12_init_187 : decode cX12_init 187 = .ok (.bipush 99, 2) := by decide +kernel
theorem dX12_init_189 : decode cX12_init 189 = .ok (.iastore, 1) := by decide +kernel
theorem dX12_init_190 : decode cX12_init 190 = .ok (.dup, 1) := by decide +kernel
theorem dX12_init_191 : decode cX12_init 191 = .ok (.bipush 14, 2) := by decide +kernel
theorem dX12_init_193 : decode cX12_init 193 = .ok (.bipush 107, 2) := by decide +kernel
theorem dX12_init_195 : decode cX12_init 195 = .ok (.iastore, 1) := by decide +kernel
theorem dX12_init_196 : decode cX12_init 196 = .ok (.dup, 1) := by decide +kernel
theorem dX12_init_197 : decode cX12_init 197 = .ok (.bipush 15, 2) := by decide +kernel
theorem dX12_init_199 : decode cX12_init 199 = .ok (.bipush 32, 2) := by decide +kernel
theorem dX12_init_201 : decode cX12_init 201 = .ok (.iastore, 1) := by decide +kernel
theorem dX12_init_202 : decode cX12_init 202 = .ok (.dup, 1) := by decide +kernel
theorem dX12_init_203 : decode cX12_init 203 = .ok (.bipush 16, 2) := by decide +kernel
theorem dX12_init_205 : decode cX12_init 205 = .ok (.bipush 102, 2) := by decide +kernel
theorem dX12_init_207 : decode cX12_init 207 = .ok (.iastore, 1) := by decide +kernel
theorem dX12_init_208 : decode cX12_init 208 = .ok (.dup, 1) := by decide +kernel
theorem dX12_init_209 : decode cX12_init 209 = .ok (.bipush 17, 2) := by decide +kernel
theorem dX12_init_211 : decode cX12_init 211 = .ok (.bipush 101, 2) := by decide +kernel
theorem dX12_init_213 : decode cX12_init 213 = .ok (.iastore, 1) := by decide +kernel
theorem dX12_init_214 : decode cX12_init 214 = .ok (.dup, 1) := by decide +kernel
theorem dX12_init_215 : decode cX12_init 215 = .ok (.bipush 18, 2) := by decide +kernel
theorem dX12_init_217 : decode cX12_init 217 = .ok (.bipush 101, 2) := by decide +kernel
theorem dX12_init_219 : decode cX12_init 219 = .ok (.iastore, 1) := by decide +kernel
theorem dX12_init_220 : decode cX12_init 220 = .ok (.dup, 1) := by decide +kernel
theorem dX12_init_221 : decode cX12_init 221 = .ok (.bipush 19, 2) := by decide +kernel
theorem dX12_init_223 : decode cX12_init 223 = .ok (.bipush 108, 2) := by decide +kernel
theorem dX12_init_225 : decode cX12_init 225 = .ok (.iastore, 1) := by decide +kernel
theorem dX12_init_226 : decode cX12_init 226 = .ok (.dup, 1) := by decide +kernel
theorem dX12_init_227 : decode cX12_init 227 = .ok (.bipush 20, 2) := by decide +kernel
theorem dX12_init_229 : decode cX12_init 229 = .ok (.bipush 32, 2) := by decide +kernel
theorem dX12_init_231 : decode cX12_init 231 = .ok (.iastore, 1) := by decide +kernel
theorem dX12_init_232 : decode cX12_init 232 = .ok (.dup, 1) := by decide +kernel
theorem dX12_init_233 : decode cX12_init 233 = .ok (.bipush 21, 2) := by decide +kernel
theorem dX12_init_235 : decode cX12_init 235 = .ok (.bipush 116, 2) := by decide +kernel
theorem dX12_init_237 : decode cX12_init 237 = .ok (.iastore, 1) := by decide +kernel
theorem dX12_init_238 : decode cX12_init 238 = .ok (.dup, 1) := by decide +kernel
theorem dX12_init_239 : decode cX12_init 239 = .ok (.bipush 22, 2) := by decide +kernel
theorem dX12_init_241 : decode cX12_init 241 = .ok (.bipush 114, 2) := by decide +kernel
theorem dX12_init_243 : decode cX12_init 243 = .ok (.iastore, 1) := by decide +kernel
theorem dX12_init_244 : decode cX12_init 244 = .ok (.dup, 1) := by decide +kernel
theorem dX12_init_245 : decode cX12_init 245 = .ok (.bipush 23, 2) := by decide +kernel
theorem dX12_init_247 : decode cX12_init 247 = .ok (.bipush 121, 2) := by decide +kernel
theorem dX12_init_249 : decode cX12_init 249 = .ok (.iastore, 1) := by decide +kernel
theorem dX12_init_250 : decode cX12_init 250 = .ok (.dup, 1) := by decide +kernel
theorem dX12_init_251 : decode cX12_init 251 = .ok (.bipush 24, 2) := by decide +kernel
theorem dX12_init_253 : decode cX12_init 253 = .ok (.bipush 32, 2) := by decide +kernel
theorem dX12_init_255 : decode cX12_init 255 = .ok (.iastore, 1) := by decide +kernel
theorem dX12_init_256 : decode cX12_init 256 = .ok (.dup, 1) := by decide +kernel
theorem dX12_init_257 : decode cX12_init 257 = .ok (.bipush 25, 2) := by decide +kernel
theorem dX12_init_259 : decode cX12_init 259 = .ok (.bipush 97, 2) := by decide +kernel
theorem dX12_init_261 : decode cX12_init 261 = .ok (.iastore, 1) := by decide +kernel
theorem dX12_init_262 : decode cX12_init 262 = .ok (.dup, 1) := by decide +kernel
theorem dX12_init_263 : decode cX12_init 263 = .ok (.bipush 26, 2) := by decide +kernel
theorem dX12_init_265 : decode cX12_init 265 = .ok (.bipush 103, 2) := by decide +kernel
theorem dX12_init_267 : decode cX12_init 267 = .ok (.iastore, 1) := by decide +kernel
theorem dX12_init_268 : decode cX12_init 268 = .ok (.dup, 1) := by decide +kernel
theorem dX12_init_269 : decode cX12_init 269 = .ok (.bipush 27, 2) := by decide +kernel
theorem dX12_init_271 : decode cX12_init 271 = .ok (.bipush 97, 2) := by decide +kernel
theorem dX12_init_273 : decode cX12_init 273 = .ok (.iastore, 1) := by decide +kernel
theorem dX12_init_274 : decode cX12_init 274 = .ok (.dup, 1) := by decide +kernel
theorem dX12_init_275 : decode cX12_init 275 = .ok (.bipush 28, 2) := by decide +kernel
theorem dX12_init_277 : decode cX12_init 277 = .ok (.bipush 105, 2) := by decide +kernel
theorem dX12_init_279 : decode cX12_init 279 = .ok (.iastore, 1) := by decide +kernel
theorem dX12_init_280 : decode cX12_init 280 = .ok (.dup, 1) := by decide +kernel
theorem dX12_init_281 : decode cX12_init 281 = .ok (.bipush 29, 2) := by decide +kernel
theorem dX12_init_283 : decode cX12_init 283 = .ok (.bipush 110, 2) := by decide +kernel
theorem dX12_init_285 : decode cX12_init 285 = .ok (.iastore, 1) := by decide +kernel
theorem dX12_init_286 : decode cX12_init 286 = .ok (.dup, 1) := by decide +kernel
theorem dX12_init_287 : decode cX12_init 287 = .ok (.bipush 30, 2) := by decide +kernel
theorem dX12_init_289 : decode cX12_init 289 = .ok (.bipush 32, 2) := by decide +kernel
theorem dX12_init_291 : decode cX12_init 291 = .ok (.iastore, 1) := by decide +kernel
theorem dX12_init_292 : decode cX12_init 292 = .ok (.dup, 1) := by decide +kernel
theorem dX12_init_293 : decode cX12_init 293 = .ok (.bipush 31, 2) := by decide +kernel
theorem dX12_init_295 : decode cX12_init 295 = .ok (.bipush 101, 2) := by decide +kernel
theorem dX12_init_297 : decode cX12_init 297 = .ok (.iastore, 1) := by decide +kernel
theorem dX12_init_298 : decode cX12_init 298 = .ok (.dup, 1) := by decide +kernel
theorem dX12_init_299 : decode cX12_init 299 = .ok (.bipush 32, 2) := by decide +kernel
theorem dX12_init_301 : decode cX12_init 301 = .ok (.bipush 97, 2) := by decide +kernel
theorem dX12_init_303 : decode cX12_init 303 = .ok (.iastore, 1) := by decide +kernel
theorem dX12_init_304 : decode cX12_init 304 = .ok (.dup, 1) := by decide +kernel
theorem dX12_init_305 : decode cX12_init 305 = .ok (.bipush 33, 2) := by decide +kernel
theorem dX12_init_307 : decode cX12_init 307 = .ok (.bipush 99, 2) := by decide +kernel
theorem dX12_init_309 : decode cX12_init 309 = .ok (.iastore, 1) := by decide +kernel
theorem dX12_init_310 : decode cX12_init 310 = .ok (.dup, 1) := by decide +kernel
theorem dX12_init_311 : decode cX12_init 311 = .ok (.bipush 34, 2) := by decide +kernel
theorem dX12_init_313 : decode cX12_init 313 = .ok (.bipush 104, 2) := by decide +kernel
theorem dX12_init_315 : decode cX12_init 315 = .ok (.iastore, 1) := by decide +kernel
theorem dX12_init_316 : decode cX12_init 316 = .ok (.dup, 1) := by decide +kernel
theorem dX12_init_317 : decode cX12_init 317 = .ok (.bipush 35, 2) := by decide +kernel
theorem dX12_init_319 : decode cX12_init 319 = .ok (.bipush 32, 2) := by decide +kernel
theorem dX12_init_321 : decode cX12_init 321 = .ok (.iastore, 1) := by decide +kernel
theorem dX12_init_322 : decode cX12_init 322 = .ok (.putfield 53, 3) := by decide +kernel
theorem dX12_init_325 : decode cX12_init 325 = .ok (.aload_n 0, 1) := by decide +kernel
theorem dX12_init_326 : decode cX12_init 326 = .ok (.iconst (-1), 1) := by decide +kernel
theorem dX12_init_327 : decode cX12_init 327 = .ok (.putfield 56, 3) := by decide +kernel
theorem dX12_init_330 : decode cX12_init 330 = .ok (.aload_n 0, 1) := by decide +kernel
theorem dX12_init_331 : decode cX12_init 331 = .ok (.bipush 60, 2) := by decide +kernel
theorem dX12_init_333 : decode cX12_init 333 = .ok (.newarray .int, 2) := by decide +kernel
theorem dX12_init_335 : decode cX12_init 335 = .ok (.putfield 59, 3) := by decide +kernel
theorem dX12_init_338 : decode cX12_init 338 = .ok (.aload_n 0, 1) := by decide +kernel
theorem dX12_init_339 : decode cX12_init 339 = .ok (.bipush 60, 2) := by decide +kernel
theorem dX12_init_341 : decode cX12_init 341 = .ok (.newarray .int, 2) := by decide +kernel
theorem dX12_init_343 : decode cX12_init 343 = .ok (.putfield 62, 3) := by decide +kernel
theorem dX12_init_346 : decode cX12_init 346 = .ok (.aload_n 0, 1) := by decide +kernel
theorem dX12_init_347 : decode cX12_init 347 = .ok (.bipush 60, 2) := by decide +kernel
theorem dX12_init_349 : decode cX12_init 349 = .ok (.newarray .int, 2) := by decide +kernel
theorem dX12_init_351 : decode cX12_init 351 = .ok (.putfield 65, 3) := by decide +kernel
theorem dX12_init_354 : decode cX12_init 354 = .ok (.aload_n 0, 1) := by decide +kernel
theorem dX12_init_355 : decode cX12_init 355 = .ok (.bipush 60, 2) := by decide +kernel
theorem dX12_init_357 : decode cX12_init 357 = .ok (.newarray .int, 2) := by decide +kernel
theorem dX12_init_359 : decode cX12_init 359 = .ok (.putfield 68, 3) := by decide +kernel
theorem dX12_init_362 : decode cX12_init 362 = .ok (.aload_n 0, 1) := by decide +kernel
theorem dX12_init_363 : decode cX12_init 363 = .ok (.bipush 60, 2) := by decide +kernel
theorem dX12_init_365 : decode cX12_init 365 = .ok (.newarray .int, 2) := by decide +kernel
theorem dX12_init_367 : decode cX12_init 367 = .ok (.putfield 71, 3) := by decide +kernel
theorem dX12_init_370 : decode cX12_init 370 = .ok (.aload_n 0, 1) := by decide +kernel
theorem dX12_init_371 : decode cX12_init 371 = .ok (.bipush 60, 2) := by decide +kernel
theorem dX12_init_373 : decode cX12_init 373 = .ok (.newarray .int, 2) := by decide +kernel
theorem dX12_init_375 : decode cX12_init 375 = .ok (.putfield 74, 3) := by decide +kernel
theorem dX12_init_378 : decode cX12_init 378 = .ok (.aload_n 0, 1) := by decide +kernel
theorem dX12_init_379 : decode cX12_init 379 = .ok (.bipush 60, 2) := by decide +kernel
theorem dX12_init_381 : decode cX12_init 381 = .ok (.newarray .int, 2) := by decide +kernel
theorem dX12_init_383 : decode cX12_init 383 = .ok (.putfield 77, 3) := by decide +kernel
theorem dX12_init_386 : decode cX12_init 386 = .ok (.aload_n 0, 1) := by decide +kernel
theorem dX12_init_387 : decode cX12_init 387 = .ok (.bipush 60, 2) := by decide +kernel
theorem dX12_init_389 : decode cX12_init 389 = .ok (.newarray .int, 2) := by decide +kernel
theorem dX12_init_391 : decode cX12_init 391 = .ok (.putfield 80, 3) := by decide +kernel
theorem dX12_init_394 : decode cX12_init 394 = .ok (.aload_n 0, 1) := by decide +kernel
theorem dX12_init_395 : decode cX12_init 395 = .ok (.iconst 5, 1) := by decide +kernel
theorem dX12_init_396 : decode cX12_init 396 = .ok (.newarray .int, 2) := by decide +kernel
theorem dX12_init_398 : decode cX12_init 398 = .ok (.putfield 83, 3) := by decide +kernel
theorem dX12_init_401 : decode cX12_init 401 = .ok (.aload_n 0, 1) := by decide +kernel
theorem dX12_init_402 : decode cX12_init 402 = .ok (.bipush 8, 2) := by decide +kernel
theorem dX12_init_404 : decode cX12_init 404 = .ok (.newarray .int, 2) := by decide +kernel
theorem dX12_init_406 : decode cX12_init 406 = .ok (.putfield 86, 3) := by decide +kernel
theorem dX12_init_409 : decode cX12_init 409 = .ok (.aload_n 0, 1) := by decide +kernel
theorem dX12_init_410 : decode cX12_init 410 = .ok (.iconst 5, 1) := by decide +kernel
theorem dX12_init_411 : decode cX12_init 411 = .ok (.newarray .int, 2) := by decide +kernel
theorem dX12_init_413 : decode cX12_init 413 = .ok (.putfield 89, 3) := by decide +kernel
theorem dX12_init_416 : decode cX12_init 416 = .ok (.aload_n 0, 1) := by decide +kernel
theorem dX12_init_417 : decode cX12_init 417 = .ok (.iconst 5, 1) := by decide +kernel
theorem dX12_init_418 : decode cX12_init 418 = .ok (.newarray .int, 2) := by decide +kernel
theorem dX12_init_420 : decode cX12_init 420 = .ok (.putfield 92, 3) := by decide +kernel
theorem dX12_init_423 : decode cX12_init 423 = .ok (.aload_n 0, 1) := by decide +kernel
theorem dX12_init_424 : decode cX12_init 424 = .ok (.bipush 100, 2) := by decide +kernel
theorem dX12_init_426 : decode cX12_init 426 = .ok (.newarray .boolean, 2) := by decide +kernel
theorem dX12_init_428 : decode cX12_init 428 = .ok (.putfield 95, 3) := by decide +kernel
theorem dX12_init_431 : decode cX12_init 431 = .ok (.aload_n 0, 1) := by decide +kernel
theorem dX12_init_432 : decode cX12_init 432 = .ok (.bipush 100, 2) := by decide +kernel
theorem dX12_init_434 : decode cX12_init 434 = .ok (.newarray .int, 2) := by decide +kernel
theorem dX12_init_436 : decode cX12_init 436 = .ok (.putfield 99, 3) := by decide +kernel
theorem dX12_init_439 : decode cX12_init 439 = .ok (.aload_n 0, 1) := by decide +kernel
theorem dX12_init_440 : decode cX12_init 440 = .ok (.iconst 4, 1) := by decide +kernel
theorem dX12_init_441 : decode cX12_init 441 = .ok (.newarray .int, 2) := by decide +kernel
theorem dX12_init_443 : decode cX12_init 443 = .ok (.putfield 102, 3) := by decide +kernel
theorem dX12_init_446 : decode cX12_init 446 = .ok (.aload_n 0, 1) := by decide +kernel
theorem dX12_init_447 : decode cX12_init 447 = .ok (.sipush 400, 3) := by decide +kernel
theorem dX12_init_450 : decode cX12_init 450 = .ok (.newarray .int, 2) := by decide +kernel
theorem dX12_init_452 : decode cX12_init 452 = .ok (.putfield 105, 3) := by decide +kernel
theorem dX12_init_455 : decode cX12_init 455 = .ok (.aload_n 0, 1) := by decide +kernel
theorem dX12_init_456 : decode cX12_init 456 = .ok (.iconst 4, 1) := by decide +kernel
theorem dX12_init_457 : decode cX12_init 457 = .ok (.newarray .int, 2) := by decide +kernel
theorem dX12_init_459 : decode cX12_init 459 = .ok (.putfield 108, 3) := by decide +kernel
theorem dX12_init_462 : decode cX12_init 462 = .ok (.aload_n 0, 1) := by decide +kernel
theorem dX12_init_463 : decode cX12_init 463 = .ok (.iconst 4, 1) := by decide +kernel
theorem dX12_init_464 : decode cX12_init 464 = .ok (.newarray .int, 2) := by decide +kernel
theorem dX12_init_466 : decode cX12_init 466 = .ok (.putfield 111, 3) := by decide +kernel
theorem dX12_init_469 : decode cX12_init 469 = .ok (.aload_n 0, 1) := by decide +kernel
theorem dX12_init_470 : decode cX12_init 470 = .ok (.iconst 4, 1) := by decide +kernel
theorem dX12_init_471 : decode cX12_init 471 = .ok (.newarray .int, 2) := by decide +kernel
theorem dX12_init_473 : decode cX12_init 473 = .ok (.putfield 114, 3) := by decide +kernel
theorem dX12_init_476 : decode cX12_init 476 = .ok (.aload_n 0, 1) := by decide +kernel
theorem dX12_init_477 : decode cX12_init 477 = .ok (.bipush 80, 2) := by decide +kernel
theorem dX12_init_479 : decode cX12_init 479 = .ok (.newarray .int, 2) := by decide +kernel
theorem dX12_init_481 : decode cX12_init 481 = .ok (.putfield 117, 3) := by decide +kernel
theorem dX12_init_484 : decode cX12_init 484 = .ok (.aload_n 0, 1) := by decide +kernel
theorem dX12_init_485 : decode cX12_init 485 = .ok (.bipush 80, 2) := by decide +kernel
theorem dX12_init_487 : decode cX12_init 487 = .ok (.newarray .int, 2) := by decide +kernel
theorem dX12_init_489 : decode cX12_init 489 = .ok (.putfield 120, 3) := by decide +kernel
theorem dX12_init_492 : decode cX12_init 492 = .ok (.aload_n 0, 1) := by decide +kernel
theorem dX12_init_493 : decode cX12_init 493 = .ok (.bipush 80, 2) := by decide +kernel
theorem dX12_init_495 : decode cX12_init 495 = .ok (.newarray .int, 2) := by decide +kernel
theorem dX12_init_497 : decode cX12_init 497 = .ok (.putfield 123, 3) := by decide +kernel
theorem dX12_init_500 : decode cX12_init 500 = .ok (.aload_n 0, 1) := by decide +kernel
theorem dX12_init_501 : decode cX12_init 501 = .ok (.bipush 80, 2) := by decide +kernel
theorem dX12_init_503 : decode cX12_init 503 = .ok (.newarray .int, 2) := by decide +kernel
theorem dX12_init_505 : decode cX12_init 505 = .ok (.putfield 126, 3) := by decide +kernel
theorem dX12_init_508 : decode cX12_init 508 = .ok (.aload_n 0, 1) := by decide +kernel
theorem dX12_init_509 : decode cX12_init 509 = .ok (.bipush 80, 2) := by decide +kernel
theorem dX12_init_511 : decode cX12_init 511 = .ok (.newarray .int, 2) := by decide +kernel
theorem dX12_init_513 : decode cX12_init 513 = .ok (.putfield 129, 3) := by decide +kernel
theorem dX12_init_516 : decode cX12_init 516 = .ok (.aload_n 0, 1) := by decide +kernel
theorem dX12_init_517 : decode cX12_init 517 = .ok (.bipush 80, 2) := by decide +kernel
theorem dX12_init_519 : decode cX12_init 519 = .ok (.newarray .boolean, 2) := by decide +kernel
theorem dX12_init_521 : decode cX12_init 521 = .ok (.putfield 132, 3) := by decide +kernel
theorem dX12_init_524 : decode cX12_init 524 = .ok (.return_, 1) := by decide +kernel
theorem dX12_feed_0 : decode cX12_feed 0 = .ok (.aload_n 0, 1) := by decide +kernel
theorem dX12_feed_1 : decode cX12_feed 1 = .ok (.iconst 0, 1) := by decide +kernel
theorem dX12_feed_2 : decode cX12_feed 2 = .ok (.putfield 135, 3) := by decide +kernel
theorem dX12_feed_5 : decode cX12_feed 5 = .ok (.aload_n 0, 1) := by decide +kernel
theorem dX12_feed_6 : decode cX12_feed 6 = .ok (.getfield 138, 3) := by decide +kernel
theorem dX12_feed_9 : decode cX12_feed 9 = .ok (.bipush 20, 2) := by decide +kernel
theorem dX12_feed_11 : decode cX12_feed 11 = .ok (.iadd, 1) := by decide +kernel
theorem dX12_feed_12 : decode cX12_feed 12 = .ok (.sipush 500, 3) := by decide +kernel
theorem dX12_feed_15 : decode cX12_feed 15 = .ok (.if_icmp .le 5, 3) := by decide +kernel
theorem dX12_feed_18 : decode cX12_feed 18 = .ok (.iconst (-1), 1) := by decide +kernel
theorem dX12_feed_19 : decode cX12_feed 19 = .ok (.ireturn, 1) := by decide +kernel
theorem dX12_feed_20 : decode cX12_feed 20 = .ok (.iconst 0, 1) := by decide +kernel
theorem dX12_feed_21 : decode cX12_feed 21 = .ok (.istore 6, 2) := by decide +kernel
theorem dX12_feed_23 : decode cX12_feed 23 = .ok (.iload 6, 2) := by decide +kernel
theorem dX12_feed_25 : decode cX12_feed 25 = .ok (.bipush 20, 2) := by decide +kernel
theorem dX12_feed_27 : decode cX12_feed 27 = .ok (.if_icmp .ge 86, 3) := by decide +kernel
theorem dX12_feed_30 : decode cX12_feed 30 = .ok (.iload 6, 2) := by decide +kernel
theorem dX12_feed_32 : decode cX12_feed 32 = .ok (.iconst 4, 1) := by decide +kernel
theorem dX12_feed_33 : decode cX12_feed 33 = .ok (.if_icmp .ge 7, 3) := by decide +kernel
theorem dX12_feed_36 : decode cX12_feed 36 = .ok (.iload_n 1, 1) := by decide +kernel
theorem dX12_feed_37 : decode cX12_feed 37 = .ok (.goto 39, 3) := by decide +kernel
theorem dX12_feed_40 : decode cX12_feed 40 = .ok (.iload 6, 2) := by decide +kernel
theorem dX12_feed_42 : decode cX12_feed 42 = .ok (.bipush 8, 2) := by decide +kernel
theorem dX12_feed_44 : decode cX12_feed 44 = .ok (.if_icmp .ge 7, 3) := by decide +kernel
theorem dX12_feed_47 : decode cX12_feed 47 = .ok (.iload_n 2, 1) := by decide +kernel
theorem dX12_feed_48 : decode cX12_feed 48 = .ok (.goto 28, 3) := by decide +kernel
theorem dX12_feed_51 : decode cX12_feed 51 = .ok (.iload 6, 2) := by decide +kernel
theorem dX12_feed_53 : decode cX12_feed 53 = .ok (.bipush 12, 2) := by decide +kernel
theorem dX12_feed_55 : decode cX12_feed 55 = .ok (.if_icmp .ge 7, 3) := by decide +kernel
theorem dX12_feed_58 : decode cX12_feed 58 = .ok (.iload_n 3, 1) := by decide +kernel
theorem dX12_feed_59 : decode cX12_feed 59 = .ok (.goto 17, 3) := by decide +kernel
theorem dX12_feed_62 : decode cX12_feed 62 = .ok (.iload 6, 2) := by decide +kernel
theorem dX12_feed_64 : decode cX12_feed 64 = .ok (.bipush 16, 2) := by decide +kernel
theorem dX12_feed_66 : decode cX12_feed 66 = .ok (.if_icmp .ge 8, 3) := by decide +kernel
theorem dX12_feed_69 : decode cX12_feed 69 = .ok (.iload 4, 2) := by decide +kernel
theorem dX12_feed_71 : decode cX12_feed 71 = .ok (.goto 5, 3) := by decide +kernel
theorem dX12_feed_74 : decode cX12_feed 74 = .ok (.iload 5, 2) := by decide +kernel
theorem dX12_feed_76 : decode cX12_feed 76 = .ok (.istore 7, 2) := by decide +kernel
theorem dX12_feed_78 : decode cX12_feed 78 = .ok (.aload_n 0, 1) := by decide +kernel
theorem dX12_feed_79 : decode cX12_feed 79 = .ok (.getfield 7, 3) := by decide +kernel
theorem dX12_feed_82 : decode cX12_feed 82 = .ok (.aload_n 0, 1) := by decide +kernel
theorem dX12_feed_83 : decode cX12_feed 83 = .ok (.getfield 138, 3) := by decide +kernel
theorem dX12_feed_86 : decode cX12_feed 86 = .ok (.iload 6, 2) := by decide +kernel
theorem dX12_feed_88 : decode cX12_feed 88 = .ok (.iadd, 1) := by decide +kernel
theorem dX12_feed_89 : decode cX12_feed 89 = .ok (.iload 7, 2) := by decide +kernel
theorem dX12_feed_91 : decode cX12_feed 91 = .ok (.bipush 24, 2) := by decide +kernel
theorem dX12_feed_93 : decode cX12_feed 93 = .ok (.bipush 8, 2) := by decide +kernel
theorem dX12_feed_95 : decode cX12_feed 95 = .ok (.iload 6, 2) := by decide +kernel
theorem dX12_feed_97 : decode cX12_feed 97 = .ok (.iconst 4, 1) := by decide +kernel
theorem dX12_feed_98 : decode cX12_feed 98 = .ok (.irem, 1) := by decide +kernel
theorem dX12_feed_99 : decode cX12_feed 99 = .ok (.imul, 1) := by decide +kernel
theorem dX12_feed_100 : decode cX12_feed 100 = .ok (.isub, 1) := by decide +kernel
theorem dX12_feed_101 : decode cX12_feed 101 = .ok (.ishr, 1) := by decide +kernel
theorem dX12_feed_102 : decode cX12_feed 102 = .ok (.sipush 255, 3) := by decide +kernel
theorem dX12_feed_105 : decode cX12_feed 105 = .ok (.iand, 1) := by decide +kernel
theorem dX12_feed_106 : decode cX12_feed 106 = .ok (.iastore, 1) := by decide +kernel
theorem dX12_feed_107 : decode cX12_feed 107 = .ok (.iinc 6 1, 3) := by decide +kernel
theorem dX12_feed_110 : decode cX12_feed 110 = .ok (.goto (-87), 3) := by decide +kernel
theorem dX12_feed_113 : decode cX12_feed 113 = .ok (.aload_n 0, 1) := by decide +kernel
theorem dX12_feed_114 : decode cX12_feed 114 = .ok (.dup, 1) := by decide +kernel
theorem dX12_feed_115 : decode cX12_feed 115 = .ok (.getfield 138, 3) := by decide +kernel
theorem dX12_feed_118 : decode cX12_feed 118 = .ok (.bipush 20, 2) := by decide +kernel
theorem dX12_feed_120 : decode cX12_feed 120 = .ok (.iadd, 1) := by decide +kernel
theorem dX12_feed_121 : decode cX12_feed 121 = .ok (.putfield 138, 3) := by decide +kernel
theorem dX12_feed_124 : decode cX12_feed 124 = .ok (.aload_n 0, 1) := by decide +kernel
theorem dX12_feed_125 : decode cX12_feed 125 = .ok (.getfield 138, 3) := by decide +kernel
theorem dX12_feed_128 : decode cX12_feed 128 = .ok (.ireturn, 1) := by decide +kernel
theorem dX12_isIn_0 : decode cX12_isIn 0 = .ok (.iload_n 0, 1) := by decide +kernel
theorem dX12_isIn_1 : decode cX12_isIn 1 = .ok (.iload_n 1, 1) := by decide +kernel
theorem dX12_isIn_2 : decode cX12_isIn 2 = .ok (.if_icmp .lt 12, 3) := by decide +kernel
theorem dX12_isIn_5 : decode cX12_isIn 5 = .ok (.iload_n 0, 1) := by decide +kernel
theorem dX12_isIn_6 : decode cX12_isIn 6 = .ok (.iload_n 2, 1) := by decide +kernel
theorem dX12_isIn_7 : decode cX12_isIn 7 = .ok (.if_icmp .gt 7, 3) := by decide +kernel
theorem dX12_isIn_10 : decode cX12_isIn 10 = .ok (.iconst 1, 1) := by decide +kernel
theorem dX12_isIn_11 : decode cX12_isIn 11 = .ok (.goto 4, 3) := by decide +kernel
theorem dX12_isIn_14 : decode cX12_isIn 14 = .ok (.iconst 0, 1) := by decide +kernel
theorem dX12_isIn_15 : decode cX12_isIn 15 = .ok (.ireturn, 1) := by decide +kernel
theorem dX12_isNumber_0 : decode cX12_isNumber 0 = .ok (.iload_n 1, 1) := by decide +kernel
theorem dX12_isNumber_1 : decode cX12_isNumber 1 = .ok (.ifCond .lt 15, 3) := by decide +kernel
theorem dX12_isNumber_4 : decode cX12_isNumber 4 = .ok (.iload_n 1, 1) := by decide +kernel
theorem dX12_isNumber_5 : decode cX12_isNumber 5 = .ok (.aload_n 0, 1) := by decide +kernel
theorem dX12_isNumber_6 : decode cX12_isNumber 6 = .ok (.getfield 13, 3) := by decide +kernel
theorem dX12_isNumber_9 : decode cX12_isNumber 9 = .ok (.if_icmp .ge 7, 3) := by decide +kernel
theorem dX12_isNumber_12 : decode cX12_isNumber 12 = .ok (.iconst 1, 1) := by decide +kernel
theorem dX12_isNumber_13 : decode cX12_isNumber 13 = .ok (.goto 4, 3) := by decide +kernel
theorem dX12_isNumber_16 : decode cX12_isNumber 16 = .ok (.iconst 0, 1) := by decide +kernel
theorem dX12_isNumber_17 : decode cX12_isNumber 17 = .ok (.ireturn, 1) := by decide +kernel
theorem dX12_isWheel_0 : decode cX12_isWheel 0 = .ok (.iload_n 1, 1) := by decide +kernel
theorem dX12_isWheel_1 : decode cX12_isWheel 1 = .ok (.ifCond .lt 15, 3) := by decide +kernel
theorem dX12_isWheel_4 : decode cX12_isWheel 4 = .ok (.iload_n 1, 1) := by decide +kernel
theorem dX12_isWheel_5 : decode cX12_isWheel 5 = .ok (.aload_n 0, 1) := by decide +kernel
theorem dX12_isWheel_6 : decode cX12_isWheel 6 = .ok (.getfield 141, 3) := by decide +kernel
theorem dX12_isWheel_9 : decode cX12_isWheel 9 = .ok (.if_icmp .ge 7, 3) := by decide +kernel
theorem dX12_isWheel_12 : decode cX12_isWheel 12 = .ok (.iconst 1, 1) := by decide +kernel
theorem dX12_isWheel_13 : decode cX12_isWheel 13 = .ok (.goto 4, 3) := by decide +kernel
theorem dX12_isWheel_16 : decode cX12_isWheel 16 = .ok (.iconst 0, 1) := by decide +kernel
theorem dX12_isWheel_17 : decode cX12_isWheel 17 = .ok (.ireturn, 1) := by decide +kernel
theorem dX12_round_0 : decode cX12_round 0 = .ok (.iload_n 1, 1) := by decide +kernel
theorem dX12_round_1 : decode cX12_round 1 = .ok (.aload_n 0, 1) := by decide +kernel
theorem dX12_round_2 : decode cX12_round 2 = .ok (.getfield 13, 3) := by decide +kernel
theorem dX12_round_5 : decode cX12_round 5 = .ok (.irem, 1) := by decide +kernel
theorem dX12_round_6 : decode cX12_round 6 = .ok (.aload_n 0, 1) := by decide +kernel
theorem dX12_round_7 : decode cX12_round 7 = .ok (.getfield 13, 3) := by decide +kernel
theorem dX12_round_10 : decode cX12_round 10 = .ok (.iadd, 1) := by decide +kernel
theorem dX12_round_11 : decode cX12_round 11 = .ok (.aload_n 0, 1) := by decide +kernel
theorem dX12_round_12 : decode cX12_round 12 = .ok (.getfield 13, 3) := by decide +kernel
theorem dX12_round_15 : decode cX12_round 15 = .ok (.irem, 1) := by decide +kernel
theorem dX12_round_16 : decode cX12_round 16 = .ok (.ireturn, 1) := by decide +kernel
theorem dX12_far_0 : decode cX12_far 0 = .ok (.aload_n 0, 1) := by decide +kernel
theorem dX12_far_1 : decode cX12_far 1 = .ok (.iload_n 1, 1) := by decide +kernel
theorem dX12_far_2 : decode cX12_far 2 = .ok (.iload_n 2, 1) := by decide +kernel
theorem dX12_far_3 : decode cX12_far 3 = .ok (.isub, 1) := by decide +kernel
theorem dX12_far_4 : decode cX12_far 4 = .ok (.invokevirtual 144, 3) := by decide +kernel
theorem dX12_far_7 : decode cX12_far 7 = .ok (.istore_n 3, 1) := by decide +kernel
theorem dX12_far_8 : decode cX12_far 8 = .ok (.iload_n 3, 1) := by decide +kernel
theorem dX12_far_9 : decode cX12_far 9 = .ok (.aload_n 0, 1) := by decide +kernel
theorem dX12_far_10 : decode cX12_far 10 = .ok (.getfield 13, 3) := by decide +kernel
theorem dX12_far_13 : decode cX12_far 13 = .ok (.iload_n 3, 1) := by decide +kernel
theorem dX12_far_14 : decode cX12_far 14 = .ok (.isub, 1) := by decide +kernel
theorem dX12_far_15 : decode cX12_far 15 = .ok (.if_icmp .le 12, 3) := by decide +kernel
theorem dX12_far_18 : decode cX12_far 18 = .ok (.aload_n 0, 1) := by decide +kernel
theorem dX12_far_19 : decode cX12_far 19 = .ok (.getfield 13, 3) := by decide +kernel
theorem dX12_far_22 : decode cX12_far 22 = .ok (.iload_n 3, 1) := by decide +kernel
theorem dX12_far_23 : decode cX12_far 23 = .ok (.isub, 1) := by decide +kernel
theorem dX12_far_24 : decode cX12_far 24 = .ok (.goto 4, 3) := by decide +kernel
theorem dX12_far_27 : decode cX12_far 27 = .ok (.iload_n 3, 1) := by decide +kernel
theorem dX12_far_28 : decode cX12_far 28 = .ok (.ireturn, 1) := by decide +kernel
theorem dX12_goes_0 : decode cX12_goes 0 = .ok (.aload_n 0, 1) := by decide +kernel
theorem dX12_goes_1 : decode cX12_goes 1 = .ok (.aload_n 0, 1) := by decide +kernel
theorem dX12_goes_2 : decode cX12_goes 2 = .ok (.iload_n 1, 1) := by decide +kernel
theorem dX12_goes_3 : decode cX12_goes 3 = .ok (.ifCond .eq 12, 3) := by decide +kernel
theorem dX12_goes_6 : decode cX12_goes 6 = .ok (.aload_n 0, 1) := by decide +kernel
theorem dX12_goes_7 : decode cX12_goes 7 = .ok (.getfield 148, 3) := by decide +kernel
theorem dX12_goes_10 : decode cX12_goes 10 = .ok (.iconst 1, 1) := by decide +kernel
theorem dX12_goes_11 : decode cX12_goes 11 = .ok (.iadd, 1) := by decide +kernel
theorem dX12_goes_12 : decode cX12_goes 12 = .ok (.goto 9, 3) := by decide +kernel
theorem dX12_goes_15 : decode cX12_goes 15 = .ok (.aload_n 0, 1) := by decide +kernel
theorem dX12_goes_16 : decode cX12_goes 16 = .ok (.getfield 148, 3) := by decide +kernel
theorem dX12_goes_19 : decode cX12_goes 19 = .ok (.iconst 1, 1) := by decide +kernel
theorem dX12_goes_20 : decode cX12_goes 20 = .ok (.isub, 1) := by decide +kernel
theorem dX12_goes_21 : decode cX12_goes 21 = .ok (.invokevirtual 144, 3) := by decide +kernel
theorem dX12_goes_24 : decode cX12_goes 24 = .ok (.putfield 148, 3) := by decide +kernel
theorem dX12_goes_27 : decode cX12_goes 27 = .ok (.aload_n 0, 1) := by decide +kernel
theorem dX12_goes_28 : decode cX12_goes 28 = .ok (.iload_n 1, 1) := by decide +kernel
theorem dX12_goes_29 : decode cX12_goes 29 = .ok (.ifCond .eq 7, 3) := by decide +kernel
theorem dX12_goes_32 : decode cX12_goes 32 = .ok (.iconst 1, 1) := by decide +kernel
theorem dX12_goes_33 : decode cX12_goes 33 = .ok (.goto 4, 3) := by decide +kernel
theorem dX12_goes_36 : decode cX12_goes 36 = .ok (.iconst 2, 1) := by decide +kernel
theorem dX12_goes_37 : decode cX12_goes 37 = .ok (.putfield 151, 3) := by decide +kernel
theorem dX12_goes_40 : decode cX12_goes 40 = .ok (.aload_n 0, 1) := by decide +kernel
theorem dX12_goes_41 : decode cX12_goes 41 = .ok (.iconst 1, 1) := by decide +kernel
theorem dX12_goes_42 : decode cX12_goes 42 = .ok (.putfield 154, 3) := by decide +kernel
theorem dX12_goes_45 : decode cX12_goes 45 = .ok (.iconst 0, 1) := by decide +kernel
theorem dX12_goes_46 : decode cX12_goes 46 = .ok (.istore_n 3, 1) := by decide +kernel
theorem dX12_goes_47 : decode cX12_goes 47 = .ok (.iload_n 3, 1) := by decide +kernel
theorem dX12_goes_48 : decode cX12_goes 48 = .ok (.aload_n 0, 1) := by decide +kernel
theorem dX12_goes_49 : decode cX12_goes 49 = .ok (.getfield 141, 3) := by decide +kernel
theorem dX12_goes_52 : decode cX12_goes 52 = .ok (.if_icmp .ge 107, 3) := by decide +kernel
theorem dX12_goes_55 : decode cX12_goes 55 = .ok (.iload_n 1, 1) := by decide +kernel
theorem dX12_goes_56 : decode cX12_goes 56 = .ok (.ifCond .eq 26, 3) := by decide +kernel
theorem dX12_goes_59 : decode cX12_goes 59 = .ok (.aload_n 0, 1) := by decide +kernel
theorem dX12_goes_60 : decode cX12_goes 60 = .ok (.getfield 44, 3) := by decide +kernel
theorem dX12_goes_63 : decode cX12_goes 63 = .ok (.iload_n 3, 1) := by decide +kernel
theorem dX12_goes_64 : decode cX12_goes 64 = .ok (.iaload, 1) := by decide +kernel
theorem dX12_goes_65 : decode cX12_goes 65 = .ok (.aload_n 0, 1) := by decide +kernel
theorem dX12_goes_66 : decode cX12_goes 66 = .ok (.getfield 13, 3) := by decide +kernel
theorem dX12_goes_69 : decode cX12_goes 69 = .ok (.aload_n 0, 1) := by decide +kernel
theorem dX12_goes_70 : decode cX12_goes 70 = .ok (.getfield 17, 3) := by decide +kernel
theorem dX12_goes_73 : decode cX12_goes 73 = .ok (.iload_n 3, 1) := by decide +kernel
theorem dX12_goes_74 : decode cX12_goes 74 = .ok (.iaload, 1) := by decide +kernel
theorem dX12_goes_75 : decode cX12_goes 75 = .ok (.isub, 1) := by decide +kernel
theorem dX12_goes_76 : decode cX12_goes 76 = .ok (.if_icmp .ge 44, 3) := by decide +kernel
theorem dX12_goes_79 : decode cX12_goes 79 = .ok (.goto 12, 3) := by decide +kernel
theorem dX12_goes_82 : decode cX12_goes 82 = .ok (.aload_n 0, 1) := by decide +kernel
theorem dX12_goes_83 : decode cX12_goes 83 = .ok (.getfield 44, 3) := by decide +kernel
theorem dX12_goes_86 : decode cX12_goes 86 = .ok (.iload_n 3, 1) := by decide +kernel
theorem dX12_goes_87 : decode cX12_goes 87 = .ok (.iaload, 1) := by decide +kernel
theorem dX12_goes_88 : decode cX12_goes 88 = .ok (.ifCond .le 32, 3) := by decide +kernel
theorem dX12_goes_91 : decode cX12_goes 91 = .ok (.aload_n 0, 1) := by decide +kernel
theorem dX12_goes_92 : decode cX12_goes 92 = .ok (.getfield 44, 3) := by decide +kernel
theorem dX12_goes_95 : decode cX12_goes 95 = .ok (.iload_n 3, 1) := by decide +kernel
theorem dX12_goes_96 : decode cX12_goes 96 = .ok (.dup2, 1) := by decide +kernel
theorem dX12_goes_97 : decode cX12_goes 97 = .ok (.iaload, 1) := by decide +kernel
theorem dX12_goes_98 : decode cX12_goes 98 = .ok (.iload_n 1, 1) := by decide +kernel
theorem dX12_goes_99 : decode cX12_goes 99 = .ok (.ifCond .eq 7, 3) := by decide +kernel
theorem dX12_goes_102 : decode cX12_goes 102 = .ok (.iconst 1, 1) := by decide +kernel
theorem dX12_goes_103 : decode cX12_goes 103 = .ok (.goto 4, 3) := by decide +kernel
theorem dX12_goes_106 : decode cX12_goes 106 = .ok (.iconst (-1), 1) := by decide +kernel
theorem dX12_goes_107 : decode cX12_goes 107 = .ok (.iadd, 1) := by decide +kernel
theorem dX12_goes_108 : decode cX12_goes 108 = .ok (.iastore, 1) := by decide +kernel
theorem dX12_goes_109 : decode cX12_goes 109 = .ok (.iload_n 3, 1) := by decide +kernel
theorem dX12_goes_110 : decode cX12_goes 110 = .ok (.iload_n 2, 1) := by decide +kernel
theorem dX12_goes_111 : decode cX12_goes 111 = .ok (.if_icmp .gt 8, 3) := by decide +kernel
theorem dX12_goes_114 : decode cX12_goes 114 = .ok (.aload_n 0, 1) := by decide +kernel
theorem dX12_goes_115 : decode cX12_goes 115 = .ok (.iconst 0, 1) := by decide +kernel
theorem dX12_goes_116 : decode cX12_goes 116 = .ok (.putfield 154, 3) := by decide +kernel
theorem dX12_goes_119 : decode cX12_goes 119 = .ok (.return_, 1) := by decide +kernel
theorem dX12_goes_120 : decode cX12_goes 120 = .ok (.aload_n 0, 1) := by decide +kernel
theorem dX12_goes_121 : decode cX12_goes 121 = .ok (.getfield 41, 3) := by decide +kernel
theorem dX12_goes_124 : decode cX12_goes 124 = .ok (.iload_n 3, 1) := by decide +kernel
theorem dX12_goes_125 : decode cX12_goes 125 = .ok (.aload_n 0, 1) := by decide +kernel
theorem dX12_goes_126 : decode cX12_goes 126 = .ok (.iload_n 1, 1) := by decide +kernel
theorem dX12_goes_127 : decode cX12_goes 127 = .ok (.ifCond .eq 14, 3) := by decide +kernel
theorem dX12_goes_130 : decode cX12_goes 130 = .ok (.aload_n 0, 1) := by decide +kernel
theorem dX12_goes_131 : decode cX12_goes 131 = .ok (.getfield 41, 3) := by decide +kernel
theorem dX12_goes_134 : decode cX12_goes 134 = .ok (.iload_n 3, 1) := by decide +kernel
theorem dX12_goes_135 : decode cX12_goes 135 = .ok (.iaload, 1) := by decide +kernel
theorem dX12_goes_136 : decode cX12_goes 136 = .ok (.iconst 1, 1) := by decide +kernel
theorem dX12_goes_137 : decode cX12_goes 137 = .ok (.iadd, 1) := by decide +kernel
theorem dX12_goes_138 : decode cX12_goes 138 = .ok (.goto 11, 3) := by decide +kernel
theorem dX12_goes_141 : decode cX12_goes 141 = .ok (.aload_n 0, 1) := by decide +kernel
theorem dX12_goes_142 : decode cX12_goes 142 = .ok (.getfield 41, 3) := by decide +kernel
theorem dX12_goes_145 : decode cX12_goes 145 = .ok (.iload_n 3, 1) := by decide +kernel
theorem dX12_goes_146 : decode cX12_goes 146 = .ok (.iaload, 1) := by decide +kernel
theorem dX12_goes_147 : decode cX12_goes 147 = .ok (.iconst 1, 1) := by decide +kernel
theorem dX12_goes_148 : decode cX12_goes 148 = .ok (.isub, 1) := by decide +kernel
theorem dX12_goes_149 : decode cX12_goes 149 = .ok (.invokevirtual 144, 3) := by decide +kernel
theorem dX12_goes_152 : decode cX12_goes 152 = .ok (.iastore, 1) := by decide +kernel
theorem dX12_goes_153 : decode cX12_goes 153 = .ok (.iinc 3 1, 3) := by decide +kernel
theorem dX12_goes_156 : decode cX12_goes 156 = .ok (.goto (-109), 3) := by decide +kernel
theorem dX12_goes_159 : decode cX12_goes 159 = .ok (.return_, 1) := by decide +kernel
theorem dX12_plain_0 : decode cX12_plain 0 = .ok (.aload_n 0, 1) := by decide +kernel
theorem dX12_plain_1 : decode cX12_plain 1 = .ok (.getfield 29, 3) := by decide +kernel
theorem dX12_plain_4 : decode cX12_plain 4 = .ok (.iload_n 1, 1) := by decide +kernel
theorem dX12_plain_5 : decode cX12_plain 5 = .ok (.iaload, 1) := by decide +kernel
theorem dX12_plain_6 : decode cX12_plain 6 = .ok (.aload_n 0, 1) := by decide +kernel
theorem dX12_plain_7 : decode cX12_plain 7 = .ok (.getfield 32, 3) := by decide +kernel
theorem dX12_plain_10 : decode cX12_plain 10 = .ok (.iload_n 1, 1) := by decide +kernel
theorem dX12_plain_11 : decode cX12_plain 11 = .ok (.iaload, 1) := by decide +kernel
theorem dX12_plain_12 : decode cX12_plain 12 = .ok (.aload_n 0, 1) := by decide +kernel
theorem dX12_plain_13 : decode cX12_plain 13 = .ok (.iload_n 2, 1) := by decide +kernel
theorem dX12_plain_14 : decode cX12_plain 14 = .ok (.aload_n 0, 1) := by decide +kernel
theorem dX12_plain_15 : decode cX12_plain 15 = .ok (.getfield 35, 3) := by decide +kernel
theorem dX12_plain_18 : decode cX12_plain 18 = .ok (.iload_n 1, 1) := by decide +kernel
theorem dX12_plain_19 : decode cX12_plain 19 = .ok (.iaload, 1) := by decide +kernel
theorem dX12_plain_20 : decode cX12_plain 20 = .ok (.invokevirtual 158, 3) := by decide +kernel
theorem dX12_plain_23 : decode cX12_plain 23 = .ok (.imul, 1) := by decide +kernel
theorem dX12_plain_24 : decode cX12_plain 24 = .ok (.aload_n 0, 1) := by decide +kernel
theorem dX12_plain_25 : decode cX12_plain 25 = .ok (.getfield 13, 3) := by decide +kernel
theorem dX12_plain_28 : decode cX12_plain 28 = .ok (.iconst 2, 1) := by decide +kernel
theorem dX12_plain_29 : decode cX12_plain 29 = .ok (.idiv, 1) := by decide +kernel
theorem dX12_plain_30 : decode cX12_plain 30 = .ok (.idiv, 1) := by decide +kernel
theorem dX12_plain_31 : decode cX12_plain 31 = .ok (.isub, 1) := by decide +kernel
theorem dX12_plain_32 : decode cX12_plain 32 = .ok (.ireturn, 1) := by decide +kernel
theorem dX12_isAt_0 : decode cX12_isAt 0 = .ok (.iload_n 2, 1) := by decide +kernel
theorem dX12_isAt_1 : decode cX12_isAt 1 = .ok (.iconst (-1), 1) := by decide +kernel
theorem dX12_isAt_2 : decode cX12_isAt 2 = .ok (.if_icmp .eq 27, 3) := by decide +kernel
theorem dX12_isAt_5 : decode cX12_isAt 5 = .ok (.aload_n 0, 1) := by decide +kernel
theorem dX12_isAt_6 : decode cX12_isAt 6 = .ok (.aload_n 0, 1) := by decide +kernel
theorem dX12_isAt_7 : decode cX12_isAt 7 = .ok (.getfield 41, 3) := by decide +kernel
theorem dX12_isAt_10 : decode cX12_isAt 10 = .ok (.iload_n 1, 1) := by decide +kernel
theorem dX12_isAt_11 : decode cX12_isAt 11 = .ok (.iaload, 1) := by decide +kernel
theorem dX12_isAt_12 : decode cX12_isAt 12 = .ok (.iload_n 2, 1) := by decide +kernel
theorem dX12_isAt_13 : decode cX12_isAt 13 = .ok (.invokevirtual 158, 3) := by decide +kernel
theorem dX12_isAt_16 : decode cX12_isAt 16 = .ok (.aload_n 0, 1) := by decide +kernel
theorem dX12_isAt_17 : decode cX12_isAt 17 = .ok (.getfield 26, 3) := by decide +kernel
theorem dX12_isAt_20 : decode cX12_isAt 20 = .ok (.iload_n 1, 1) := by decide +kernel
theorem dX12_isAt_21 : decode cX12_isAt 21 = .ok (.iaload, 1) := by decide +kernel
theorem dX12_isAt_22 : decode cX12_isAt 22 = .ok (.if_icmp .gt 7, 3) := by decide +kernel
theorem dX12_isAt_25 : decode cX12_isAt 25 = .ok (.iconst 1, 1) := by decide +kernel
theorem dX12_isAt_26 : decode cX12_isAt 26 = .ok (.goto 4, 3) := by decide +kernel
theorem dX12_isAt_29 : decode cX12_isAt 29 = .ok (.iconst 0, 1) := by decide +kernel
theorem dX12_isAt_30 : decode cX12_isAt 30 = .ok (.ireturn, 1) := by decide +kernel
theorem dX12_isBeside_0 : decode cX12_isBeside 0 = .ok (.iload_n 2, 1) := by decide +kernel
theorem dX12_isBeside_1 : decode cX12_isBeside 1 = .ok (.iconst (-1), 1) := by decide +kernel
theorem dX12_isBeside_2 : decode cX12_isBeside 2 = .ok (.if_icmp .eq 29, 3) := by decide +kernel
theorem dX12_isBeside_5 : decode cX12_isBeside 5 = .ok (.aload_n 0, 1) := by decide +kernel
theorem dX12_isBeside_6 : decode cX12_isBeside 6 = .ok (.aload_n 0, 1) := by decide +kernel
theorem dX12_isBeside_7 : decode cX12_isBeside 7 = .ok (.getfield 41, 3) := by decide +kernel
theorem dX12_isBeside_10 : decode cX12_isBeside 10 = .ok (.iload_n 1, 1) := by decide +kernel
theorem dX12_isBeside_11 : decode cX12_isBeside 11 = .ok (.iaload, 1) := by decide +kernel
theorem dX12_isBeside_12 : decode cX12_isBeside 12 = .ok (.iload_n 2, 1) := by decide +kernel
theorem dX12_isBeside_13 : decode cX12_isBeside 13 = .ok (.invokevirtual 158, 3) := by decide +kernel
theorem dX12_isBeside_16 : decode cX12_isBeside 16 = .ok (.aload_n 0, 1) := by decide +kernel
theorem dX12_isBeside_17 : decode cX12_isBeside 17 = .ok (.getfield 26, 3) := by decide +kernel
theorem dX12_isBeside_20 : decode cX12_isBeside 20 = .ok (.iload_n 1, 1) := by decide +kernel
theorem dX12_isBeside_21 : decode cX12_isBeside 21 = .ok (.iaload, 1) := by decide +kernel
theorem dX12_isBeside_22 : decode cX12_isBeside 22 = .ok (.iconst 1, 1) := by decide +kernel
theorem dX12_isBeside_23 : decode cX12_isBeside 23 = .ok (.iadd, 1) := by decide +kernel
theorem dX12_isBeside_24 : decode cX12_isBeside 24 = .ok (.if_icmp .ne 7, 3) := by decide +kernel
theorem dX12_isBeside_27 : decode cX12_isBeside 27 = .ok (.iconst 1, 1) := by decide +kernel
theorem dX12_isBeside_28 : decode cX12_isBeside 28 = .ok (.goto 4, 3) := by decide +kernel
theorem dX12_isBeside_31 : decode cX12_isBeside 31 = .ok (.iconst 0, 1) := by decide +kernel
theorem dX12_isBeside_32 : decode cX12_isBeside 32 = .ok (.ireturn, 1) := by decide +kernel
theorem dX12_isInside_0 : decode cX12_isInside 0 = .ok (.aload_n 0, 1) := by decide +kernel
theorem dX12_isInside_1 : decode cX12_isInside 1 = .ok (.iload_n 1, 1) := by decide +kernel
theorem dX12_isInside_2 : decode cX12_isInside 2 = .ok (.aload_n 0, 1) := by decide +kernel
theorem dX12_isInside_3 : decode cX12_isInside 3 = .ok (.getfield 20, 3) := by decide +kernel
theorem dX12_isInside_6 : decode cX12_isInside 6 = .ok (.iload_n 1, 1) := by decide +kernel
theorem dX12_isInside_7 : decode cX12_isInside 7 = .ok (.iaload, 1) := by decide +kernel
theorem dX12_isInside_8 : decode cX12_isInside 8 = .ok (.invokevirtual 162, 3) := by decide +kernel
theorem dX12_isInside_11 : decode cX12_isInside 11 = .ok (.ifCond .ne 17, 3) := by decide +kernel
theorem dX12_isInside_14 : decode cX12_isInside 14 = .ok (.aload_n 0, 1) := by decide +kernel
theorem dX12_isInside_15 : decode cX12_isInside 15 = .ok (.iload_n 1, 1) := by decide +kernel
theorem dX12_isInside_16 : decode cX12_isInside 16 = .ok (.aload_n 0, 1) := by decide +kernel
theorem dX12_isInside_17 : decode cX12_isInside 17 = .ok (.getfield 23, 3) := by decide +kernel
theorem dX12_isInside_20 : decode cX12_isInside 20 = .ok (.iload_n 1, 1) := by decide +kernel
theorem dX12_isInside_21 : decode cX12_isInside 21 = .ok (.iaload, 1) := by decide +kernel
theorem dX12_isInside_22 : decode cX12_isInside 22 = .ok (.invokevirtual 162, 3) := by decide +kernel
theorem dX12_isInside_25 : decode cX12_isInside 25 = .ok (.ifCond .eq 7, 3) := by decide +kernel
theorem dX12_isInside_28 : decode cX12_isInside 28 = .ok (.iconst 1, 1) := by decide +kernel
theorem dX12_isInside_29 : decode cX12_isInside 29 = .ok (.goto 4, 3) := by decide +kernel
theorem dX12_isInside_32 : decode cX12_isInside 32 = .ok (.iconst 0, 1) := by decide +kernel
theorem dX12_isInside_33 : decode cX12_isInside 33 = .ok (.ireturn, 1) := by decide +kernel
theorem dX12_radius_0 : decode cX12_radius 0 = .ok (.aload_n 0, 1) := by decide +kernel
theorem dX12_radius_1 : decode cX12_radius 1 = .ok (.iload_n 1, 1) := by decide +kernel
theorem dX12_radius_2 : decode cX12_radius 2 = .ok (.invokevirtual 166, 3) := by decide +kernel
theorem dX12_radius_5 : decode cX12_radius 5 = .ok (.ifCond .eq 5, 3) := by decide +kernel
theorem dX12_radius_8 : decode cX12_radius 8 = .ok (.iconst 0, 1) := by decide +kernel
theorem dX12_radius_9 : decode cX12_radius 9 = .ok (.ireturn, 1) := by decide +kernel
theorem dX12_radius_10 : decode cX12_radius 10 = .ok (.aload_n 0, 1) := by decide +kernel
theorem dX12_radius_11 : decode cX12_radius 11 = .ok (.iload_n 1, 1) := by decide +kernel
theorem dX12_radius_12 : decode cX12_radius 12 = .ok (.aload_n 0, 1) := by decide +kernel
theorem dX12_radius_13 : decode cX12_radius 13 = .ok (.getfield 41, 3) := by decide +kernel
theorem dX12_radius_16 : decode cX12_radius 16 = .ok (.iload_n 1, 1) := by decide +kernel
theorem dX12_radius_17 : decode cX12_radius 17 = .ok (.iaload, 1) := by decide +kernel
theorem dX12_radius_18 : decode cX12_radius 18 = .ok (.invokevirtual 170, 3) := by decide +kernel
theorem dX12_radius_21 : decode cX12_radius 21 = .ok (.aload_n 0, 1) := by decide +kernel
theorem dX12_radius_22 : decode cX12_radius 22 = .ok (.iload_n 1, 1) := by decide +kernel
theorem dX12_radius_23 : decode cX12_radius 23 = .ok (.aload_n 0, 1) := by decide +kernel
theorem dX12_radius_24 : decode cX12_radius 24 = .ok (.getfield 20, 3) := by decide +kernel
theorem dX12_radius_27 : decode cX12_radius 27 = .ok (.iload_n 1, 1) := by decide +kernel
theorem dX12_radius_28 : decode cX12_radius 28 = .ok (.iaload, 1) := by decide +kernel
theorem dX12_radius_29 : decode cX12_radius 29 = .ok (.invokevirtual 173, 3) := by decide +kernel
theorem dX12_radius_32 : decode cX12_radius 32 = .ok (.ifCond .ne 17, 3) := by decide +kernel
theorem dX12_radius_35 : decode cX12_radius 35 = .ok (.aload_n 0, 1) := by decide +kernel
theorem dX12_radius_36 : decode cX12_radius 36 = .ok (.iload_n 1, 1) := by decide +kernel
theorem dX12_radius_37 : decode cX12_radius 37 = .ok (.aload_n 0, 1) := by decide +kernel
theorem dX12_radius_38 : decode cX12_radius 38 = .ok (.getfield 23, 3) := by decide +kernel
theorem dX12_radius_41 : decode cX12_radius 41 = .ok (.iload_n 1, 1) := by decide +kernel
theorem dX12_radius_42 : decode cX12_radius 42 = .ok (.iaload, 1) := by decide +kernel
theorem dX12_radius_43 : decode cX12_radius 43 = .ok (.invokevirtual 173, 3) := by decide +kernel
theorem dX12_radius_46 : decode cX12_radius 46 = .ok (.ifCond .eq 12, 3) := by decide +kernel
theorem dX12_radius_49 : decode cX12_radius 49 = .ok (.aload_n 0, 1) := by decide +kernel
theorem dX12_radius_50 : decode cX12_radius 50 = .ok (.getfield 38, 3) := by decide +kernel
theorem dX12_radius_53 : decode cX12_radius 53 = .ok (.iload_n 1, 1) := by decide +kernel
theorem dX12_radius_54 : decode cX12_radius 54 = .ok (.iaload, 1) := by decide +kernel
theorem dX12_radius_55 : decode cX12_radius 55 = .ok (.goto 4, 3) := by decide +kernel
theorem dX12_radius_58 : decode cX12_radius 58 = .ok (.iconst 0, 1) := by decide +kernel
theorem dX12_radius_59 : decode cX12_radius 59 = .ok (.isub, 1) := by decide +kernel
theorem dX12_radius_60 : decode cX12_radius 60 = .ok (.ireturn, 1) := by decide +kernel
theorem dX12_ridesNow_0 : decode cX12_ridesNow 0 = .ok (.iconst 0, 1) := by decide +kernel
theorem dX12_ridesNow_1 : decode cX12_ridesNow 1 = .ok (.istore_n 1, 1) := by decide +kernel
theorem dX12_ridesNow_2 : decode cX12_ridesNow 2 = .ok (.iconst 0, 1) := by decide +kernel
theorem dX12_ridesNow_3 : decode cX12_ridesNow 3 = .ok (.istore_n 2, 1) := by decide +kernel
theorem dX12_ridesNow_4 : decode cX12_ridesNow 4 = .ok (.iload_n 2, 1) := by decide +kernel
theorem dX12_ridesNow_5 : decode cX12_ridesNow 5 = .ok (.aload_n 0, 1) := by decide +kernel
theorem dX12_ridesNow_6 : decode cX12_ridesNow 6 = .ok (.getfield 141, 3) := by decide +kernel
theorem dX12_ridesNow_9 : decode cX12_ridesNow 9 = .ok (.if_icmp .ge 28, 3) := by decide +kernel
theorem dX12_ridesNow_12 : decode cX12_ridesNow 12 = .ok (.aload_n 0, 1) := by decide +kernel
theorem dX12_ridesNow_13 : decode cX12_ridesNow 13 = .ok (.iload_n 2, 1) := by decide +kernel
theorem dX12_ridesNow_14 : decode cX12_ridesNow 14 = .ok (.invokevirtual 176, 3) := by decide +kernel
theorem dX12_ridesNow_17 : decode cX12_ridesNow 17 = .ok (.iload_n 1, 1) := by decide +kernel
theorem dX12_ridesNow_18 : decode cX12_ridesNow 18 = .ok (.if_icmp .le 11, 3) := by decide +kernel
theorem dX12_ridesNow_21 : decode cX12_ridesNow 21 = .ok (.aload_n 0, 1) := by decide +kernel
theorem dX12_ridesNow_22 : decode cX12_ridesNow 22 = .ok (.iload_n 2, 1) := by decide +kernel
theorem dX12_ridesNow_23 : decode cX12_ridesNow 23 = .ok (.invokevirtual 176, 3) := by decide +kernel
theorem dX12_ridesNow_26 : decode cX12_ridesNow 26 = .ok (.goto 4, 3) := by decide +kernel
theorem dX12_ridesNow_29 : decode cX12_ridesNow 29 = .ok (.iload_n 1, 1) := by decide +kernel
theorem dX12_ridesNow_30 : decode cX12_ridesNow 30 = .ok (.istore_n 1, 1) := by decide +kernel
theorem dX12_ridesNow_31 : decode cX12_ridesNow 31 = .ok (.iinc 2 1, 3) := by decide +kernel
theorem dX12_ridesNow_34 : decode cX12_ridesNow 34 = .ok (.goto (-30), 3) := by decide +kernel
theorem dX12_ridesNow_37 : decode cX12_ridesNow 37 = .ok (.iload_n 1, 1) := by decide +kernel
theorem dX12_ridesNow_38 : decode cX12_ridesNow 38 = .ok (.ireturn, 1) := by decide +kernel
theorem dX12_rides_0 : decode cX12_rides 0 = .ok (.aload_n 0, 1) := by decide +kernel
theorem dX12_rides_1 : decode cX12_rides 1 = .ok (.iconst 0, 1) := by decide +kernel
theorem dX12_rides_2 : decode cX12_rides 2 = .ok (.putfield 135, 3) := by decide +kernel
theorem dX12_rides_5 : decode cX12_rides 5 = .ok (.aload_n 0, 1) := by decide +kernel
theorem dX12_rides_6 : decode cX12_rides 6 = .ok (.invokevirtual 179, 3) := by decide +kernel
theorem dX12_rides_9 : decode cX12_rides 9 = .ok (.ireturn, 1) := by decide +kernel
theorem dX12_tried_0 : decode cX12_tried 0 = .ok (.aload_n 0, 1) := by decide +kernel
theorem dX12_tried_1 : decode cX12_tried 1 = .ok (.invokevirtual 179, 3) := by decide +kernel
theorem dX12_tried_4 : decode cX12_tried 4 = .ok (.ifCond .ne 10, 3) := by decide +kernel
theorem dX12_tried_7 : decode cX12_tried 7 = .ok (.aload_n 0, 1) := by decide +kernel
theorem dX12_tried_8 : decode cX12_tried 8 = .ok (.getfield 183, 3) := by decide +kernel
theorem dX12_tried_11 : decode cX12_tried 11 = .ok (.ifCond .le 5, 3) := by decide +kernel
theorem dX12_tried_14 : decode cX12_tried 14 = .ok (.iconst 0, 1) := by decide +kernel
theorem dX12_tried_15 : decode cX12_tried 15 = .ok (.ireturn, 1) := by decide +kernel
theorem dX12_tried_16 : decode cX12_tried 16 = .ok (.iconst 0, 1) := by decide +kernel
theorem dX12_tried_17 : decode cX12_tried 17 = .ok (.istore_n 1, 1) := by decide +kernel
theorem dX12_tried_18 : decode cX12_tried 18 = .ok (.iload_n 1, 1) := by decide +kernel
theorem dX12_tried_19 : decode cX12_tried 19 = .ok (.aload_n 0, 1) := by decide +kernel
theorem dX12_tried_20 : decode cX12_tried 20 = .ok (.getfield 141, 3) := by decide +kernel
theorem dX12_tried_23 : decode cX12_tried 23 = .ok (.if_icmp .ge 25, 3) := by decide +kernel
theorem dX12_tried_26 : decode cX12_tried 26 = .ok (.aload_n 0, 1) := by decide +kernel
theorem dX12_tried_27 : decode cX12_tried 27 = .ok (.iload_n 1, 1) := by decide +kernel
theorem dX12_tried_28 : decode cX12_tried 28 = .ok (.aload_n 0, 1) := by decide +kernel
theorem dX12_tried_29 : decode cX12_tried 29 = .ok (.getfield 20, 3) := by decide +kernel
theorem dX12_tried_32 : decode cX12_tried 32 = .ok (.iload_n 1, 1) := by decide +kernel
theorem dX12_tried_33 : decode cX12_tried 33 = .ok (.iaload, 1) := by decide +kernel
theorem dX12_tried_34 : decode cX12_tried 34 = .ok (.invokevirtual 162, 3) := by decide +kernel
theorem dX12_tried_37 : decode cX12_tried 37 = .ok (.ifCond .ne 5, 3) := by decide +kernel
theorem dX12_tried_40 : decode cX12_tried 40 = .ok (.iconst 2, 1) := by decide +kernel
theorem dX12_tried_41 : decode cX12_tried 41 = .ok (.ireturn, 1) := by decide +kernel
theorem dX12_tried_42 : decode cX12_tried 42 = .ok (.iinc 1 1, 3) := by decide +kernel
theorem dX12_tried_45 : decode cX12_tried 45 = .ok (.goto (-27), 3) := by decide +kernel
theorem dX12_tried_48 : decode cX12_tried 48 = .ok (.iconst 1, 1) := by decide +kernel
theorem dX12_tried_49 : decode cX12_tried 49 = .ok (.ireturn, 1) := by decide +kernel
theorem dX12_open_0 : decode cX12_open 0 = .ok (.aload_n 0, 1) := by decide +kernel
theorem dX12_open_1 : decode cX12_open 1 = .ok (.iconst 0, 1) := by decide +kernel
theorem dX12_open_2 : decode cX12_open 2 = .ok (.putfield 135, 3) := by decide +kernel
theorem dX12_open_5 : decode cX12_open 5 = .ok (.aload_n 0, 1) := by decide +kernel
theorem dX12_open_6 : decode cX12_open 6 = .ok (.invokevirtual 186, 3) := by decide +kernel
theorem dX12_open_9 : decode cX12_open 9 = .ok (.ireturn, 1) := by decide +kernel
theorem dX12_dial_0 : decode cX12_dial 0 = .ok (.aload_n 0, 1) := by decide +kernel
theorem dX12_dial_1 : decode cX12_dial 1 = .ok (.iconst 0, 1) := by decide +kernel
theorem dX12_dial_2 : decode cX12_dial 2 = .ok (.putfield 135, 3) := by decide +kernel
theorem dX12_dial_5 : decode cX12_dial 5 = .ok (.iload_n 1, 1) := by decide +kernel
theorem dX12_dial_6 : decode cX12_dial 6 = .ok (.bipush 10, 2) := by decide +kernel
theorem dX12_dial_8 : decode cX12_dial 8 = .ok (.bipush 100, 2) := by decide +kernel
theorem dX12_dial_10 : decode cX12_dial 10 = .ok (.invokestatic 189, 3) := by decide +kernel
theorem dX12_dial_13 : decode cX12_dial 13 = .ok (.ifCond .ne 5, 3) := by decide +kernel
theorem dX12_dial_16 : decode cX12_dial 16 = .ok (.iconst 0, 1) := by decide +kernel
theorem dX12_dial_17 : decode cX12_dial 17 = .ok (.ireturn, 1) := by decide +kernel
theorem dX12_dial_18 : decode cX12_dial 18 = .ok (.aload_n 0, 1) := by decide +kernel
theorem dX12_dial_19 : decode cX12_dial 19 = .ok (.iload_n 1, 1) := by decide +kernel
theorem dX12_dial_20 : decode cX12_dial 20 = .ok (.putfield 13, 3) := by decide +kernel
theorem dX12_dial_23 : decode cX12_dial 23 = .ok (.aload_n 0, 1) := by decide +kernel
theorem dX12_dial_24 : decode cX12_dial 24 = .ok (.iconst 0, 1) := by decide +kernel
theorem dX12_dial_25 : decode cX12_dial 25 = .ok (.putfield 141, 3) := by decide +kernel
theorem dX12_dial_28 : decode cX12_dial 28 = .ok (.aload_n 0, 1) := by decide +kernel
theorem dX12_dial_29 : decode cX12_dial 29 = .ok (.invokevirtual 193, 3) := by decide +kernel
theorem dX12_dial_32 : decode cX12_dial 32 = .ok (.aload_n 0, 1) := by decide +kernel
theorem dX12_dial_33 : decode cX12_dial 33 = .ok (.iconst 0, 1) := by decide +kernel
theorem dX12_dial_34 : decode cX12_dial 34 = .ok (.putfield 196, 3) := by decide +kernel
theorem dX12_dial_37 : decode cX12_dial 37 = .ok (.aload_n 0, 1) := by decide +kernel
theorem dX12_dial_38 : decode cX12_dial 38 = .ok (.iconst 0, 1) := by decide +kernel
theorem dX12_dial_39 : decode cX12_dial 39 = .ok (.putfield 183, 3) := by decide +kernel
theorem dX12_dial_42 : decode cX12_dial 42 = .ok (.aload_n 0, 1) := by decide +kernel
theorem dX12_dial_43 : decode cX12_dial 43 = .ok (.iconst 0, 1) := by decide +kernel
theorem dX12_dial_44 : decode cX12_dial 44 = .ok (.putfield 199, 3) := by decide +kernel
theorem dX12_dial_47 : decode cX12_dial 47 = .ok (.iconst 1, 1) := by decide +kernel
theorem dX12_dial_48 : decode cX12_dial 48 = .ok (.ireturn, 1) := by decide +kernel
theorem dX12_begins_0 : decode cX12_begins 0 = .ok (.iconst 0, 1) := by decide +kernel
theorem dX12_begins_1 : decode cX12_begins 1 = .ok (.istore_n 1, 1) := by decide +kernel
theorem dX12_begins_2 : decode cX12_begins 2 = .ok (.iload_n 1, 1) := by decide +kernel
theorem dX12_begins_3 : decode cX12_begins 3 = .ok (.aload_n 0, 1) := by decide +kernel
theorem dX12_begins_4 : decode cX12_begins 4 = .ok (.getfield 141, 3) := by decide +kernel
theorem dX12_begins_7 : decode cX12_begins 7 = .ok (.if_icmp .ge 23, 3) := by decide +kernel
theorem dX12_begins_10 : decode cX12_begins 10 = .ok (.aload_n 0, 1) := by decide +kernel
theorem dX12_begins_11 : decode cX12_begins 11 = .ok (.getfield 41, 3) := by decide +kernel
theorem dX12_begins_14 : decode cX12_begins 14 = .ok (.iload_n 1, 1) := by decide +kernel
theorem dX12_begins_15 : decode cX12_begins 15 = .ok (.iconst 0, 1) := by decide +kernel
theorem dX12_begins_16 : decode cX12_begins 16 = .ok (.iastore, 1) := by decide +kernel
theorem dX12_begins_17 : decode cX12_begins 17 = .ok (.aload_n 0, 1) := by decide +kernel
theorem dX12_begins_18 : decode cX12_begins 18 = .ok (.getfield 44, 3) := by decide +kernel
theorem dX12_begins_21 : decode cX12_begins 21 = .ok (.iload_n 1, 1) := by decide +kernel
theorem dX12_begins_22 : decode cX12_begins 22 = .ok (.iconst 0, 1) := by decide +kernel
theorem dX12_begins_23 : decode cX12_begins 23 = .ok (.iastore, 1) := by decide +kernel
theorem dX12_begins_24 : decode cX12_begins 24 = .ok (.iinc 1 1, 3) := by decide +kernel
theorem dX12_begins_27 : decode cX12_begins 27 = .ok (.goto (-25), 3) := by decide +kernel
theorem dX12_begins_30 : decode cX12_begins 30 = .ok (.aload_n 0, 1) := by decide +kernel
theorem dX12_begins_31 : decode cX12_begins 31 = .ok (.iconst 0, 1) := by decide +kernel
theorem dX12_begins_32 : decode cX12_begins 32 = .ok (.putfield 148, 3) := by decide +kernel
theorem dX12_begins_35 : decode cX12_begins 35 = .ok (.aload_n 0, 1) := by decide +kernel
theorem dX12_begins_36 : decode cX12_begins 36 = .ok (.iconst 0, 1) := by decide +kernel
theorem dX12_begins_37 : decode cX12_begins 37 = .ok (.putfield 151, 3) := by decide +kernel
theorem dX12_begins_40 : decode cX12_begins 40 = .ok (.aload_n 0, 1) := by decide +kernel
theorem dX12_begins_41 : decode cX12_begins 41 = .ok (.iconst 0, 1) := by decide +kernel
theorem dX12_begins_42 : decode cX12_begins 42 = .ok (.putfield 202, 3) := by decide +kernel
theorem dX12_begins_45 : decode cX12_begins 45 = .ok (.return_, 1) := by decide +kernel
theorem dX12_wheel_0 : decode cX12_wheel 0 = .ok (.aload_n 0, 1) := by decide +kernel
theorem dX12_wheel_1 : decode cX12_wheel 1 = .ok (.iconst 0, 1) := by decide +kernel
theorem dX12_wheel_2 : decode cX12_wheel 2 = .ok (.putfield 135, 3) := by decide +kernel
theorem dX12_wheel_5 : decode cX12_wheel 5 = .ok (.aload_n 0, 1) := by decide +kernel
theorem dX12_wheel_6 : decode cX12_wheel 6 = .ok (.getfield 141, 3) := by decide +kernel
theorem dX12_wheel_9 : decode cX12_wheel 9 = .ok (.iconst 4, 1) := by decide +kernel
theorem dX12_wheel_10 : decode cX12_wheel 10 = .ok (.if_icmp .eq 75, 3) := by decide +kernel
theorem dX12_wheel_13 : decode cX12_wheel 13 = .ok (.iload_n 1, 1) := by decide +kernel
theorem dX12_wheel_14 : decode cX12_wheel 14 = .ok (.iconst 1, 1) := by decide +kernel
theorem dX12_wheel_15 : decode cX12_wheel 15 = .ok (.bipush 9, 2) := by decide +kernel
theorem dX12_wheel_17 : decode cX12_wheel 17 = .ok (.invokestatic 189, 3) := by decide +kernel
theorem dX12_wheel_20 : decode cX12_wheel 20 = .ok (.ifCond .eq 65, 3) := by decide +kernel
theorem dX12_wheel_23 : decode cX12_wheel 23 = .ok (.aload_n 0, 1) := by decide +kernel
theorem dX12_wheel_24 : decode cX12_wheel 24 = .ok (.iload_n 2, 1) := by decide +kernel
theorem dX12_wheel_25 : decode cX12_wheel 25 = .ok (.invokevirtual 205, 3) := by decide +kernel
theorem dX12_wheel_28 : decode cX12_wheel 28 = .ok (.ifCond .eq 57, 3) := by decide +kernel
theorem dX12_wheel_31 : decode cX12_wheel 31 = .ok (.iload_n 3, 1) := by decide +kernel
theorem dX12_wheel_32 : decode cX12_wheel 32 = .ok (.iconst 0, 1) := by decide +kernel
theorem dX12_wheel_33 : decode cX12_wheel 33 = .ok (.iconst 3, 1) := by decide +kernel
theorem dX12_wheel_34 : decode cX12_wheel 34 = .ok (.invokestatic 189, 3) := by decide +kernel
theorem dX12_wheel_37 : decode cX12_wheel 37 = .ok (.ifCond .eq 48, 3) := by decide +kernel
theorem dX12_wheel_40 : decode cX12_wheel 40 = .ok (.iload 4, 2) := by decide +kernel
theorem dX12_wheel_42 : decode cX12_wheel 42 = .ok (.sipush 200, 3) := by decide +kernel
theorem dX12_wheel_45 : decode cX12_wheel 45 = .ok (.sipush 900, 3) := by decide +kernel
theorem dX12_wheel_48 : decode cX12_wheel 48 = .ok (.invokestatic 189, 3) := by decide +kernel
theorem dX12_wheel_51 : decode cX12_wheel 51 = .ok (.ifCond .eq 34, 3) := by decide +kernel
theorem dX12_wheel_54 : decode cX12_wheel 54 = .ok (.iload 5, 2) := by decide +kernel
theorem dX12_wheel_56 : decode cX12_wheel 56 = .ok (.iconst 0, 1) := by decide +kernel
theorem dX12_wheel_57 : decode cX12_wheel 57 = .ok (.bipush 50, 2) := by decide +kernel
theorem dX12_wheel_59 : decode cX12_wheel 59 = .ok (.invokestatic 189, 3) := by decide +kernel
theorem dX12_wheel_62 : decode cX12_wheel 62 = .ok (.ifCond .eq 23, 3) := by decide +kernel
theorem dX12_wheel_65 : decode cX12_wheel 65 = .ok (.aload_n 0, 1) := by decide +kernel
theorem dX12_wheel_66 : decode cX12_wheel 66 = .ok (.iload 6, 2) := by decide +kernel
theorem dX12_wheel_68 : decode cX12_wheel 68 = .ok (.invokevirtual 205, 3) := by decide +kernel
theorem dX12_wheel_71 : decode cX12_wheel 71 = .ok (.ifCond .eq 14, 3) := by decide +kernel
theorem dX12_wheel_74 : decode cX12_wheel 74 = .ok (.iload 7, 2) := by decide +kernel
theorem dX12_wheel_76 : decode cX12_wheel 76 = .ok (.iconst 0, 1) := by decide +kernel
theorem dX12_wheel_77 : decode cX12_wheel 77 = .ok (.bipush 60, 2) := by decide +kernel
theorem dX12_wheel_79 : decode cX12_wheel 79 = .ok (.invokestatic 189, 3) := by decide +kernel
theorem dX12_wheel_82 : decode cX12_wheel 82 = .ok (.ifCond .ne 5, 3) := by decide +kernel
theorem dX12_wheel_85 : decode cX12_wheel 85 = .ok (.iconst (-1), 1) := by decide +kernel
theorem dX12_wheel_86 : decode cX12_wheel 86 = .ok (.ireturn, 1) := by decide +kernel
theorem dX12_wheel_87 : decode cX12_wheel 87 = .ok (.aload_n 0, 1) := by decide +kernel
theorem dX12_wheel_88 : decode cX12_wheel 88 = .ok (.getfield 17, 3) := by decide +kernel
theorem dX12_wheel_91 : decode cX12_wheel 91 = .ok (.aload_n 0, 1) := by decide +kernel
theorem dX12_wheel_92 : decode cX12_wheel 92 = .ok (.getfield 141, 3) := by decide +kernel
theorem dX12_wheel_95 : decode cX12_wheel 95 = .ok (.iload_n 1, 1) := by decide +kernel
theorem dX12_wheel_96 : decode cX12_wheel 96 = .ok (.iastore, 1) := by decide +kernel
theorem dX12_wheel_97 : decode cX12_wheel 97 = .ok (.aload_n 0, 1) := by decide +kernel
theorem dX12_wheel_98 : decode cX12_wheel 98 = .ok (.getfield 20, 3) := by decide +kernel
theorem dX12_wheel_101 : decode cX12_wheel 101 = .ok (.aload_n 0, 1) := by decide +kernel
theorem dX12_wheel_102 : decode cX12_wheel 102 = .ok (.getfield 141, 3) := by decide +kernel
theorem dX12_wheel_105 : decode cX12_wheel 105 = .ok (.iload_n 2, 1) := by decide +kernel
theorem dX12_wheel_106 : decode cX12_wheel 106 = .ok (.iastore, 1) := by decide +kernel
theorem dX12_wheel_107 : decode cX12_wheel 107 = .ok (.aload_n 0, 1) := by decide +kernel
theorem dX12_wheel_108 : decode cX12_wheel 108 = .ok (.getfield 23, 3) := by decide +kernel
theorem dX12_wheel_111 : decode cX12_wheel 111 = .ok (.aload_n 0, 1) := by decide +kernel
theorem dX12_wheel_112 : decode cX12_wheel 112 = .ok (.getfield 141, 3) := by decide +kernel
theorem dX12_wheel_115 : decode cX12_wheel 115 = .ok (.iconst (-1), 1) := by decide +kernel
theorem dX12_wheel_116 : decode cX12_wheel 116 = .ok (.iastore, 1) := by decide +kernel
theorem dX12_wheel_117 : decode cX12_wheel 117 = .ok (.aload_n 0, 1) := by decide +kernel
theorem dX12_wheel_118 : decode cX12_wheel 118 = .ok (.getfield 26, 3) := by decide +kernel
theorem dX12_wheel_121 : decode cX12_wheel 121 = .ok (.aload_n 0, 1) := by decide +kernel
theorem dX12_wheel_122 : decode cX12_wheel 122 = .ok (.getfield 141, 3) := by decide +kernel
theorem dX12_wheel_125 : decode cX12_wheel 125 = .ok (.iload_n 3, 1) := by decide +kernel
theorem dX12_wheel_126 : decode cX12_wheel 126 = .ok (.iastore, 1) := by decide +kernel
theorem dX12_wheel_127 : decode cX12_wheel 127 = .ok (.aload_n 0, 1) := by decide +kernel
theorem dX12_wheel_128 : decode cX12_wheel 128 = .ok (.getfield 29, 3) := by decide +kernel
theorem dX12_wheel_131 : decode cX12_wheel 131 = .ok (.aload_n 0, 1) := by decide +kernel
theorem dX12_wheel_132 : decode cX12_wheel 132 = .ok (.getfield 141, 3) := by decide +kernel
theorem dX12_wheel_135 : decode cX12_wheel 135 = .ok (.iload 4, 2) := by decide +kernel
theorem dX12_wheel_137 : decode cX12_wheel 137 = .ok (.iastore, 1) := by decide +kernel
theorem dX12_wheel_138 : decode cX12_wheel 138 = .ok (.aload_n 0, 1) := by decide +kernel
theorem dX12_wheel_139 : decode cX12_wheel 139 = .ok (.getfield 32, 3) := by decide +kernel
theorem dX12_wheel_142 : decode cX12_wheel 142 = .ok (.aload_n 0, 1) := by decide +kernel
theorem dX12_wheel_143 : decode cX12_wheel 143 = .ok (.getfield 141, 3) := by decide +kernel
theorem dX12_wheel_146 : decode cX12_wheel 146 = .ok (.iload 5, 2) := by decide +kernel
theorem dX12_wheel_148 : decode cX12_wheel 148 = .ok (.iastore, 1) := by decide +kernel
theorem dX12_wheel_149 : decode cX12_wheel 149 = .ok (.aload_n 0, 1) := by decide +kernel
theorem dX12_wheel_150 : decode cX12_wheel 150 = .ok (.getfield 35, 3) := by decide +kernel
theorem dX12_wheel_153 : decode cX12_wheel 153 = .ok (.aload_n 0, 1) := by decide +kernel
theorem dX12_wheel_154 : decode cX12_wheel 154 = .ok (.getfield 141, 3) := by decide +kernel
theorem dX12_wheel_157 : decode cX12_wheel 157 = .ok (.iload 6, 2) := by decide +kernel
theorem dX12_wheel_159 : decode cX12_wheel 159 = .ok (.iastore, 1) := by decide +kernel
theorem dX12_wheel_160 : decode cX12_wheel 160 = .ok (.aload_n 0, 1) := by decide +kernel
theorem dX12_wheel_161 : decode cX12_wheel 161 = .ok (.getfield 38, 3) := by decide +kernel
theorem dX12_wheel_164 : decode cX12_wheel 164 = .ok (.aload_n 0, 1) := by decide +kernel
theorem dX12_wheel_165 : decode cX12_wheel 165 = .ok (.getfield 141, 3) := by decide +kernel
theorem dX12_wheel_168 : decode cX12_wheel 168 = .ok (.iload 7, 2) := by decide +kernel
theorem dX12_wheel_170 : decode cX12_wheel 170 = .ok (.iastore, 1) := by decide +kernel
theorem dX12_wheel_171 : decode cX12_wheel 171 = .ok (.iconst 0, 1) := by decide +kernel
theorem dX12_wheel_172 : decode cX12_wheel 172 = .ok (.istore 8, 2) := by decide +kernel
theorem dX12_wheel_174 : decode cX12_wheel 174 = .ok (.iload 8, 2) := by decide +kernel
theorem dX12_wheel_176 : decode cX12_wheel 176 = .ok (.sipush 1000, 3) := by decide +kernel
theorem dX12_wheel_179 : decode cX12_wheel 179 = .ok (.if_icmp .ge 26, 3) := by decide +kernel
theorem dX12_wheel_182 : decode cX12_wheel 182 = .ok (.aload_n 0, 1) := by decide +kernel
theorem dX12_wheel_183 : decode cX12_wheel 183 = .ok (.getfield 50, 3) := by decide +kernel
theorem dX12_wheel_186 : decode cX12_wheel 186 = .ok (.sipush 1000, 3) := by decide +kernel
theorem dX12_wheel_189 : decode cX12_wheel 189 = .ok (.aload_n 0, 1) := by decide +kernel
theorem dX12_wheel_190 : decode cX12_wheel 190 = .ok (.getfield 141, 3) := by decide +kernel
theorem dX12_wheel_193 : decode cX12_wheel 193 = .ok (.imul, 1) := by decide +kernel
theorem dX12_wheel_194 : decode cX12_wheel 194 = .ok (.iload 8, 2) := by decide +kernel
theorem dX12_wheel_196 : decode cX12_wheel 196 = .ok (.iadd, 1) := by decide +kernel
theorem dX12_wheel_197 : decode cX12_wheel 197 = .ok (.iload_n 2, 1) := by decide +kernel
theorem dX12_wheel_198 : decode cX12_wheel 198 = .ok (.iastore, 1) := by decide +kernel
theorem dX12_wheel_199 : decode cX12_wheel 199 = .ok (.iinc 8 1, 3) := by decide +kernel
theorem dX12_wheel_202 : decode cX12_wheel 202 = .ok (.goto (-28), 3) := by decide +kernel
theorem dX12_wheel_205 : decode cX12_wheel 205 = .ok (.aload_n 0, 1) := by decide +kernel
theorem dX12_wheel_206 : decode cX12_wheel 206 = .ok (.dup, 1) := by decide +kernel
theorem dX12_wheel_207 : decode cX12_wheel 207 = .ok (.getfield 141, 3) := by decide +kernel
theorem dX12_wheel_210 : decode cX12_wheel 210 = .ok (.iconst 1, 1) := by decide +kernel
theorem dX12_wheel_211 : decode cX12_wheel 211 = .ok (.iadd, 1) := by decide +kernel
theorem dX12_wheel_212 : decode cX12_wheel 212 = .ok (.putfield 141, 3) := by decide +kernel
theorem dX12_wheel_215 : decode cX12_wheel 215 = .ok (.aload_n 0, 1) := by decide +kernel
theorem dX12_wheel_216 : decode cX12_wheel 216 = .ok (.invokevirtual 193, 3) := by decide +kernel
theorem dX12_wheel_219 : decode cX12_wheel 219 = .ok (.aload_n 0, 1) := by decide +kernel
theorem dX12_wheel_220 : decode cX12_wheel 220 = .ok (.getfield 141, 3) := by decide +kernel
theorem dX12_wheel_223 : decode cX12_wheel 223 = .ok (.iconst 1, 1) := by decide +kernel
theorem dX12_wheel_224 : decode cX12_wheel 224 = .ok (.isub, 1) := by decide +kernel
theorem dX12_wheel_225 : decode cX12_wheel 225 = .ok (.ireturn, 1) := by decide +kernel
theorem dX12_second_0 : decode cX12_second 0 = .ok (.aload_n 0, 1) := by decide +kernel
theorem dX12_second_1 : decode cX12_second 1 = .ok (.iconst 0, 1) := by decide +kernel
theorem dX12_second_2 : decode cX12_second 2 = .ok (.putfield 135, 3) := by decide +kernel
theorem dX12_second_5 : decode cX12_second 5 = .ok (.aload_n 0, 1) := by decide +kernel
theorem dX12_second_6 : decode cX12_second 6 = .ok (.iload_n 1, 1) := by decide +kernel
theorem dX12_second_7 : decode cX12_second 7 = .ok (.invokevirtual 208, 3) := by decide +kernel
theorem dX12_second_10 : decode cX12_second 10 = .ok (.ifCond .eq 16, 3) := by decide +kernel
theorem dX12_second_13 : decode cX12_second 13 = .ok (.iload_n 2, 1) := by decide +kernel
theorem dX12_second_14 : decode cX12_second 14 = .ok (.iconst (-1), 1) := by decide +kernel
theorem dX12_second_15 : decode cX12_second 15 = .ok (.if_icmp .eq 13, 3) := by decide +kernel
theorem dX12_second_18 : decode cX12_second 18 = .ok (.aload_n 0, 1) := by decide +kernel
theorem dX12_second_19 : decode cX12_second 19 = .ok (.iload_n 2, 1) := by decide +kernel
theorem dX12_second_20 : decode cX12_second 20 = .ok (.invokevirtual 205, 3) := by decide +kernel
theorem dX12_second_23 : decode cX12_second 23 = .ok (.ifCond .ne 5, 3) := by decide +kernel
theorem dX12_second_26 : decode cX12_second 26 = .ok (.iconst 0, 1) := by decide +kernel
theorem dX12_second_27 : decode cX12_second 27 = .ok (.ireturn, 1) := by decide +kernel
theorem dX12_second_28 : decode cX12_second 28 = .ok (.aload_n 0, 1) := by decide +kernel
theorem dX12_second_29 : decode cX12_second 29 = .ok (.getfield 23, 3) := by decide +kernel
theorem dX12_second_32 : decode cX12_second 32 = .ok (.iload_n 1, 1) := by decide +kernel
theorem dX12_second_33 : decode cX12_second 33 = .ok (.iload_n 2, 1) := by decide +kernel
theorem dX12_second_34 : decode cX12_second 34 = .ok (.iastore, 1) := by decide +kernel
theorem dX12_second_35 : decode cX12_second 35 = .ok (.iconst 1, 1) := by decide +kernel
theorem dX12_second_36 : decode cX12_second 36 = .ok (.ireturn, 1) := by decide +kernel
theorem dX12_step_0 : decode cX12_step 0 = .ok (.aload_n 0, 1) := by decide +kernel
theorem dX12_step_1 : decode cX12_step 1 = .ok (.iconst 0, 1) := by decide +kernel
theorem dX12_step_2 : decode cX12_step 2 = .ok (.putfield 135, 3) := by decide +kernel
theorem dX12_step_5 : decode cX12_step 5 = .ok (.iload_n 1, 1) := by decide +kernel
theorem dX12_step_6 : decode cX12_step 6 = .ok (.ldc 211, 2) := by decide +kernel
theorem dX12_step_8 : decode cX12_step 8 = .ok (.ldc 212, 2) := by decide +kernel
theorem dX12_step_10 : decode cX12_step 10 = .ok (.invokestatic 189, 3) := by decide +kernel
theorem dX12_step_13 : decode cX12_step 13 = .ok (.ifCond .ne 5, 3) := by decide +kernel
theorem dX12_step_16 : decode cX12_step 16 = .ok (.iconst (-1), 1) := by decide +kernel
theorem dX12_step_17 : decode cX12_step 17 = .ok (.ireturn, 1) := by decide +kernel
theorem dX12_step_18 : decode cX12_step 18 = .ok (.iconst 0, 1) := by decide +kernel
theorem dX12_step_19 : decode cX12_step 19 = .ok (.istore_n 2, 1) := by decide +kernel
theorem dX12_step_20 : decode cX12_step 20 = .ok (.iload_n 2, 1) := by decide +kernel
theorem dX12_step_21 : decode cX12_step 21 = .ok (.iload_n 1, 1) := by decide +kernel
theorem dX12_step_22 : decode cX12_step 22 = .ok (.ifCond .ge 8, 3) := by decide +kernel
theorem dX12_step_25 : decode cX12_step 25 = .ok (.iload_n 1, 1) := by decide +kernel
theorem dX12_step_26 : decode cX12_step 26 = .ok (.ineg, 1) := by decide +kernel
theorem dX12_step_27 : decode cX12_step 27 = .ok (.goto 4, 3) := by decide +kernel
theorem dX12_step_30 : decode cX12_step 30 = .ok (.iload_n 1, 1) := by decide +kernel
theorem dX12_step_31 : decode cX12_step 31 = .ok (.if_icmp .ge 23, 3) := by decide +kernel
theorem dX12_step_34 : decode cX12_step 34 = .ok (.aload_n 0, 1) := by decide +kernel
theorem dX12_step_35 : decode cX12_step 35 = .ok (.iload_n 1, 1) := by decide +kernel
theorem dX12_step_36 : decode cX12_step 36 = .ok (.ifCond .le 7, 3) := by decide +kernel
theorem dX12_step_39 : decode cX12_step 39 = .ok (.iconst 1, 1) := by decide +kernel
theorem dX12_step_40 : decode cX12_step 40 = .ok (.goto 4, 3) := by decide +kernel
theorem dX12_step_43 : decode cX12_step 43 = .ok (.iconst 0, 1) := by decide +kernel
theorem dX12_step_44 : decode cX12_step 44 = .ok (.iconst 0, 1) := by decide +kernel
theorem dX12_step_45 : decode cX12_step 45 = .ok (.invokevirtual 213, 3) := by decide +kernel
theorem dX12_step_48 : decode cX12_step 48 = .ok (.iinc 2 1, 3) := by decide +kernel
theorem dX12_step_51 : decode cX12_step 51 = .ok (.goto (-31), 3) := by decide +kernel
theorem dX12_step_54 : decode cX12_step 54 = .ok (.aload_n 0, 1) := by decide +kernel
theorem dX12_step_55 : decode cX12_step 55 = .ok (.getfield 148, 3) := by decide +kernel
theorem dX12_step_58 : decode cX12_step 58 = .ok (.ireturn, 1) := by decide +kernel
theorem dX12_fails_0 : decode cX12_fails 0 = .ok (.aload_n 0, 1) := by decide +kernel
theorem dX12_fails_1 : decode cX12_fails 1 = .ok (.iload_n 1, 1) := by decide +kernel
theorem dX12_fails_2 : decode cX12_fails 2 = .ok (.putfield 135, 3) := by decide +kernel
theorem dX12_fails_5 : decode cX12_fails 5 = .ok (.iconst 0, 1) := by decide +kernel
theorem dX12_fails_6 : decode cX12_fails 6 = .ok (.ireturn, 1) := by decide +kernel
theorem dX12_look_0 : decode cX12_look 0 = .ok (.aload_n 0, 1) := by decide +kernel
theorem dX12_look_1 : decode cX12_look 1 = .ok (.iconst 0, 1) := by decide +kernel
theorem dX12_look_2 : decode cX12_look 2 = .ok (.putfield 135, 3) := by decide +kernel
theorem dX12_look_5 : decode cX12_look 5 = .ok (.aload_n 0, 1) := by decide +kernel
theorem dX12_look_6 : decode cX12_look 6 = .ok (.iload_n 1, 1) := by decide +kernel
theorem dX12_look_7 : decode cX12_look 7 = .ok (.invokevirtual 208, 3) := by decide +kernel
theorem dX12_look_10 : decode cX12_look 10 = .ok (.ifCond .ne 9, 3) := by decide +kernel
theorem dX12_look_13 : decode cX12_look 13 = .ok (.aload_n 0, 1) := by decide +kernel
theorem dX12_look_14 : decode cX12_look 14 = .ok (.iconst 1, 1) := by decide +kernel
theorem dX12_look_15 : decode cX12_look 15 = .ok (.invokevirtual 217, 3) := by decide +kernel
theorem dX12_look_18 : decode cX12_look 18 = .ok (.ireturn, 1) := by decide +kernel
theorem dX12_look_19 : decode cX12_look 19 = .ok (.iload_n 2, 1) := by decide +kernel
theorem dX12_look_20 : decode cX12_look 20 = .ok (.tableswitch 110 0 7 #[48, 55, 62, 68, 82, 89, 96, 103], 48) := by decide +kernel
theorem dX12_look_68 : decode cX12_look 68 = .ok (.aload_n 0, 1) := by decide +kernel
theorem dX12_look_69 : decode cX12_look 69 = .ok (.getfield 41, 3) := by decide +kernel
theorem dX12_look_72 : decode cX12_look 72 = .ok (.iload_n 1, 1) := by decide +kernel
theorem dX12_look_73 : decode cX12_look 73 = .ok (.iaload, 1) := by decide +kernel
theorem dX12_look_74 : decode cX12_look 74 = .ok (.ireturn, 1) := by decide +kernel
theorem dX12_look_75 : decode cX12_look 75 = .ok (.aload_n 0, 1) := by decide +kernel
theorem dX12_look_76 : decode cX12_look 76 = .ok (.getfield 44, 3) := by decide +kernel
theorem dX12_look_79 : decode cX12_look 79 = .ok (.iload_n 1, 1) := by decide +kernel
theorem dX12_look_80 : decode cX12_look 80 = .ok (.iaload, 1) := by decide +kernel
theorem dX12_look_81 : decode cX12_look 81 = .ok (.ireturn, 1) := by decide +kernel
theorem dX12_look_82 : decode cX12_look 82 = .ok (.aload_n 0, 1) := by decide +kernel
theorem dX12_look_83 : decode cX12_look 83 = .ok (.iload_n 1, 1) := by decide +kernel
theorem dX12_look_84 : decode cX12_look 84 = .ok (.invokevirtual 176, 3) := by decide +kernel
theorem dX12_look_87 : decode cX12_look 87 = .ok (.ireturn, 1) := by decide +kernel
theorem dX12_look_88 : decode cX12_look 88 = .ok (.aload_n 0, 1) := by decide +kernel
theorem dX12_look_89 : decode cX12_look 89 = .ok (.iload_n 1, 1) := by decide +kernel
theorem dX12_look_90 : decode cX12_look 90 = .ok (.invokevirtual 166, 3) := by decide +kernel
theorem dX12_look_93 : decode cX12_look 93 = .ok (.ifCond .eq 7, 3) := by decide +kernel
theorem dX12_look_96 : decode cX12_look 96 = .ok (.iconst 1, 1) := by decide +kernel
theorem dX12_look_97 : decode cX12_look 97 = .ok (.goto 4, 3) := by decide +kernel
theorem dX12_look_100 : decode cX12_look 100 = .ok (.iconst 0, 1) := by decide +kernel
theorem dX12_look_101 : decode cX12_look 101 = .ok (.ireturn, 1) := by decide +kernel
theorem dX12_look_102 : decode cX12_look 102 = .ok (.aload_n 0, 1) := by decide +kernel
theorem dX12_look_103 : decode cX12_look 103 = .ok (.getfield 20, 3) := by decide +kernel
theorem dX12_look_106 : decode cX12_look 106 = .ok (.iload_n 1, 1) := by decide +kernel
theorem dX12_look_107 : decode cX12_look 107 = .ok (.iaload, 1) := by decide +kernel
theorem dX12_look_108 : decode cX12_look 108 = .ok (.ireturn, 1) := by decide +kernel
theorem dX12_look_109 : decode cX12_look 109 = .ok (.aload_n 0, 1) := by decide +kernel
theorem dX12_look_110 : decode cX12_look 110 = .ok (.getfield 23, 3) := by decide +kernel
theorem dX12_look_113 : decode cX12_look 113 = .ok (.iload_n 1, 1) := by decide +kernel
theorem dX12_look_114 : decode cX12_look 114 = .ok (.iaload, 1) := by decide +kernel
theorem dX12_look_115 : decode cX12_look 115 = .ok (.ireturn, 1) := by decide +kernel
theorem dX12_look_116 : decode cX12_look 116 = .ok (.aload_n 0, 1) := by decide +kernel
theorem dX12_look_117 : decode cX12_look 117 = .ok (.getfield 17, 3) := by decide +kernel
theorem dX12_look_120 : decode cX12_look 120 = .ok (.iload_n 1, 1) := by decide +kernel
theorem dX12_look_121 : decode cX12_look 121 = .ok (.iaload, 1) := by decide +kernel
theorem dX12_look_122 : decode cX12_look 122 = .ok (.ireturn, 1) := by decide +kernel
theorem dX12_look_123 : decode cX12_look 123 = .ok (.aload_n 0, 1) := by decide +kernel
theorem dX12_look_124 : decode cX12_look 124 = .ok (.getfield 26, 3) := by decide +kernel
theorem dX12_look_127 : decode cX12_look 127 = .ok (.iload_n 1, 1) := by decide +kernel
theorem dX12_look_128 : decode cX12_look 128 = .ok (.iaload, 1) := by decide +kernel
theorem dX12_look_129 : decode cX12_look 129 = .ok (.ireturn, 1) := by decide +kernel
theorem dX12_look_130 : decode cX12_look 130 = .ok (.aload_n 0, 1) := by decide +kernel
theorem dX12_look_131 : decode cX12_look 131 = .ok (.iconst 2, 1) := by decide +kernel
theorem dX12_look_132 : decode cX12_look 132 = .ok (.invokevirtual 217, 3) := by decide +kernel
theorem dX12_look_135 : decode cX12_look 135 = .ok (.ireturn, 1) := by decide +kernel
theorem dX12_clock_0 : decode cX12_clock 0 = .ok (.aload_n 0, 1) := by decide +kernel
theorem dX12_clock_1 : decode cX12_clock 1 = .ok (.iconst 0, 1) := by decide +kernel
theorem dX12_clock_2 : decode cX12_clock 2 = .ok (.putfield 135, 3) := by decide +kernel
theorem dX12_clock_5 : decode cX12_clock 5 = .ok (.iload_n 1, 1) := by decide +kernel
theorem dX12_clock_6 : decode cX12_clock 6 = .ok (.iconst 0, 1) := by decide +kernel
theorem dX12_clock_7 : decode cX12_clock 7 = .ok (.sipush 999, 3) := by decide +kernel
theorem dX12_clock_10 : decode cX12_clock 10 = .ok (.invokestatic 189, 3) := by decide +kernel
theorem dX12_clock_13 : decode cX12_clock 13 = .ok (.ifCond .eq 10, 3) := by decide +kernel
theorem dX12_clock_16 : decode cX12_clock 16 = .ok (.aload_n 0, 1) := by decide +kernel
theorem dX12_clock_17 : decode cX12_clock 17 = .ok (.invokevirtual 179, 3) := by decide +kernel
theorem dX12_clock_20 : decode cX12_clock 20 = .ok (.ifCond .eq 5, 3) := by decide +kernel
theorem dX12_clock_23 : decode cX12_clock 23 = .ok (.iconst 0, 1) := by decide +kernel
theorem dX12_clock_24 : decode cX12_clock 24 = .ok (.ireturn, 1) := by decide +kernel
theorem dX12_clock_25 : decode cX12_clock 25 = .ok (.aload_n 0, 1) := by decide +kernel
theorem dX12_clock_26 : decode cX12_clock 26 = .ok (.iload_n 1, 1) := by decide +kernel
theorem dX12_clock_27 : decode cX12_clock 27 = .ok (.putfield 183, 3) := by decide +kernel
theorem dX12_clock_30 : decode cX12_clock 30 = .ok (.iconst 1, 1) := by decide +kernel
theorem dX12_clock_31 : decode cX12_clock 31 = .ok (.ireturn, 1) := by decide +kernel
theorem dX12_hours_0 : decode cX12_hours 0 = .ok (.aload_n 0, 1) := by decide +kernel
theorem dX12_hours_1 : decode cX12_hours 1 = .ok (.iconst 0, 1) := by decide +kernel
theorem dX12_hours_2 : decode cX12_hours 2 = .ok (.putfield 135, 3) := by decide +kernel
theorem dX12_hours_5 : decode cX12_hours 5 = .ok (.iload_n 1, 1) := by decide +kernel
theorem dX12_hours_6 : decode cX12_hours 6 = .ok (.iconst 0, 1) := by decide +kernel
theorem dX12_hours_7 : decode cX12_hours 7 = .ok (.sipush 9999, 3) := by decide +kernel
theorem dX12_hours_10 : decode cX12_hours 10 = .ok (.invokestatic 189, 3) := by decide +kernel
theorem dX12_hours_13 : decode cX12_hours 13 = .ok (.ifCond .ne 5, 3) := by decide +kernel
theorem dX12_hours_16 : decode cX12_hours 16 = .ok (.iconst (-1), 1) := by decide +kernel
theorem dX12_hours_17 : decode cX12_hours 17 = .ok (.ireturn, 1) := by decide +kernel
theorem dX12_hours_18 : decode cX12_hours 18 = .ok (.aload_n 0, 1) := by decide +kernel
theorem dX12_hours_19 : decode cX12_hours 19 = .ok (.aload_n 0, 1) := by decide +kernel
theorem dX12_hours_20 : decode cX12_hours 20 = .ok (.getfield 183, 3) := by decide +kernel
theorem dX12_hours_23 : decode cX12_hours 23 = .ok (.iload_n 1, 1) := by decide +kernel
theorem dX12_hours_24 : decode cX12_hours 24 = .ok (.if_icmp .le 12, 3) := by decide +kernel
theorem dX12_hours_27 : decode cX12_hours 27 = .ok (.aload_n 0, 1) := by decide +kernel
theorem dX12_hours_28 : decode cX12_hours 28 = .ok (.getfield 183, 3) := by decide +kernel
theorem dX12_hours_31 : decode cX12_hours 31 = .ok (.iload_n 1, 1) := by decide +kernel
theorem dX12_hours_32 : decode cX12_hours 32 = .ok (.isub, 1) := by decide +kernel
theorem dX12_hours_33 : decode cX12_hours 33 = .ok (.goto 4, 3) := by decide +kernel
theorem dX12_hours_36 : decode cX12_hours 36 = .ok (.iconst 0, 1) := by decide +kernel
theorem dX12_hours_37 : decode cX12_hours 37 = .ok (.putfield 183, 3) := by decide +kernel
theorem dX12_hours_40 : decode cX12_hours 40 = .ok (.aload_n 0, 1) := by decide +kernel
theorem dX12_hours_41 : decode cX12_hours 41 = .ok (.getfield 183, 3) := by decide +kernel
theorem dX12_hours_44 : decode cX12_hours 44 = .ok (.ireturn, 1) := by decide +kernel
theorem dX12_comesAt_0 : decode cX12_comesAt 0 = .ok (.iload_n 2, 1) := by decide +kernel
theorem dX12_comesAt_1 : decode cX12_comesAt 1 = .ok (.istore 4, 2) := by decide +kernel
theorem dX12_comesAt_3 : decode cX12_comesAt 3 = .ok (.iconst 0, 1) := by decide +kernel
theorem dX12_comesAt_4 : decode cX12_comesAt 4 = .ok (.istore 5, 2) := by decide +kernel
theorem dX12_comesAt_6 : decode cX12_comesAt 6 = .ok (.iload 5, 2) := by decide +kernel
theorem dX12_comesAt_8 : decode cX12_comesAt 8 = .ok (.iload_n 1, 1) := by decide +kernel
theorem dX12_comesAt_9 : decode cX12_comesAt 9 = .ok (.if_icmp .gt 30, 3) := by decide +kernel
theorem dX12_comesAt_12 : decode cX12_comesAt 12 = .ok (.iload_n 3, 1) := by decide +kernel
theorem dX12_comesAt_13 : decode cX12_comesAt 13 = .ok (.ifCond .eq 26, 3) := by decide +kernel
theorem dX12_comesAt_16 : decode cX12_comesAt 16 = .ok (.iload 4, 2) := by decide +kernel
theorem dX12_comesAt_18 : decode cX12_comesAt 18 = .ok (.aload_n 0, 1) := by decide +kernel
theorem dX12_comesAt_19 : decode cX12_comesAt 19 = .ok (.getfield 13, 3) := by decide +kernel
theorem dX12_comesAt_22 : decode cX12_comesAt 22 = .ok (.aload_n 0, 1) := by decide +kernel
theorem dX12_comesAt_23 : decode cX12_comesAt 23 = .ok (.getfield 17, 3) := by decide +kernel
theorem dX12_comesAt_26 : decode cX12_comesAt 26 = .ok (.iload 5, 2) := by decide +kernel
theorem dX12_comesAt_28 : decode cX12_comesAt 28 = .ok (.iaload, 1) := by decide +kernel
theorem dX12_comesAt_29 : decode cX12_comesAt 29 = .ok (.isub, 1) := by decide +kernel
theorem dX12_comesAt_30 : decode cX12_comesAt 30 = .ok (.iadd, 1) := by decide +kernel
theorem dX12_comesAt_31 : decode cX12_comesAt 31 = .ok (.istore 4, 2) := by decide +kernel
theorem dX12_comesAt_33 : decode cX12_comesAt 33 = .ok (.iinc 5 1, 3) := by decide +kernel
theorem dX12_comesAt_36 : decode cX12_comesAt 36 = .ok (.goto (-30), 3) := by decide +kernel
theorem dX12_comesAt_39 : decode cX12_comesAt 39 = .ok (.aload_n 0, 1) := by decide +kernel
theorem dX12_comesAt_40 : decode cX12_comesAt 40 = .ok (.iload 4, 2) := by decide +kernel
theorem dX12_comesAt_42 : decode cX12_comesAt 42 = .ok (.invokevirtual 144, 3) := by decide +kernel
theorem dX12_comesAt_45 : decode cX12_comesAt 45 = .ok (.ireturn, 1) := by decide +kernel
theorem dX12_comes_0 : decode cX12_comes 0 = .ok (.aload_n 0, 1) := by decide +kernel
theorem dX12_comes_1 : decode cX12_comes 1 = .ok (.iconst 0, 1) := by decide +kernel
theorem dX12_comes_2 : decode cX12_comes 2 = .ok (.putfield 135, 3) := by decide +kernel
theorem dX12_comes_5 : decode cX12_comes 5 = .ok (.aload_n 0, 1) := by decide +kernel
theorem dX12_comes_6 : decode cX12_comes 6 = .ok (.iload_n 1, 1) := by decide +kernel
theorem dX12_comes_7 : decode cX12_comes 7 = .ok (.invokevirtual 208, 3) := by decide +kernel
theorem dX12_comes_10 : decode cX12_comes 10 = .ok (.ifCond .eq 18, 3) := by decide +kernel
theorem dX12_comes_13 : decode cX12_comes 13 = .ok (.aload_n 0, 1) := by decide +kernel
theorem dX12_comes_14 : decode cX12_comes 14 = .ok (.iload_n 1, 1) := by decide +kernel
theorem dX12_comes_15 : decode cX12_comes 15 = .ok (.aload_n 0, 1) := by decide +kernel
theorem dX12_comes_16 : decode cX12_comes 16 = .ok (.getfield 20, 3) := by decide +kernel
theorem dX12_comes_19 : decode cX12_comes 19 = .ok (.iload_n 1, 1) := by decide +kernel
theorem dX12_comes_20 : decode cX12_comes 20 = .ok (.iaload, 1) := by decide +kernel
theorem dX12_comes_21 : decode cX12_comes 21 = .ok (.iload_n 2, 1) := by decide +kernel
theorem dX12_comes_22 : decode cX12_comes 22 = .ok (.invokevirtual 220, 3) := by decide +kernel
theorem dX12_comes_25 : decode cX12_comes 25 = .ok (.goto 4, 3) := by decide +kernel
theorem dX12_comes_28 : decode cX12_comes 28 = .ok (.iconst (-1), 1) := by decide +kernel
theorem dX12_comes_29 : decode cX12_comes 29 = .ok (.ireturn, 1) := by decide +kernel
theorem dX12_change_0 : decode cX12_change 0 = .ok (.aload_n 0, 1) := by decide +kernel
theorem dX12_change_1 : decode cX12_change 1 = .ok (.iconst 0, 1) := by decide +kernel
theorem dX12_change_2 : decode cX12_change 2 = .ok (.putfield 135, 3) := by decide +kernel
theorem dX12_change_5 : decode cX12_change 5 = .ok (.aload_n 0, 1) := by decide +kernel
theorem dX12_change_6 : decode cX12_change 6 = .ok (.iload_n 1, 1) := by decide +kernel
theorem dX12_change_7 : decode cX12_change 7 = .ok (.invokevirtual 208, 3) := by decide +kernel
theorem dX12_change_10 : decode cX12_change 10 = .ok (.ifCond .eq 18, 3) := by decide +kernel
theorem dX12_change_13 : decode cX12_change 13 = .ok (.aload_n 0, 1) := by decide +kernel
theorem dX12_change_14 : decode cX12_change 14 = .ok (.iload_n 2, 1) := by decide +kernel
theorem dX12_change_15 : decode cX12_change 15 = .ok (.invokevirtual 205, 3) := by decide +kernel
theorem dX12_change_18 : decode cX12_change 18 = .ok (.ifCond .eq 10, 3) := by decide +kernel
theorem dX12_change_21 : decode cX12_change 21 = .ok (.aload_n 0, 1) := by decide +kernel
theorem dX12_change_22 : decode cX12_change 22 = .ok (.invokevirtual 179, 3) := by decide +kernel
theorem dX12_change_25 : decode cX12_change 25 = .ok (.ifCond .eq 5, 3) := by decide +kernel
theorem dX12_change_28 : decode cX12_change 28 = .ok (.iconst 0, 1) := by decide +kernel
theorem dX12_change_29 : decode cX12_change 29 = .ok (.ireturn, 1) := by decide +kernel
theorem dX12_change_30 : decode cX12_change 30 = .ok (.aload_n 0, 1) := by decide +kernel
theorem dX12_change_31 : decode cX12_change 31 = .ok (.getfield 20, 3) := by decide +kernel
theorem dX12_change_34 : decode cX12_change 34 = .ok (.iload_n 1, 1) := by decide +kernel
theorem dX12_change_35 : decode cX12_change 35 = .ok (.iload_n 2, 1) := by decide +kernel
theorem dX12_change_36 : decode cX12_change 36 = .ok (.iastore, 1) := by decide +kernel
theorem dX12_change_37 : decode cX12_change 37 = .ok (.aload_n 0, 1) := by decide +kernel
theorem dX12_change_38 : decode cX12_change 38 = .ok (.getfield 199, 3) := by decide +kernel
theorem dX12_change_41 : decode cX12_change 41 = .ok (.istore_n 3, 1) := by decide +kernel
theorem dX12_change_42 : decode cX12_change 42 = .ok (.iload_n 3, 1) := by decide +kernel
theorem dX12_change_43 : decode cX12_change 43 = .ok (.sipush 1000, 3) := by decide +kernel
theorem dX12_change_46 : decode cX12_change 46 = .ok (.if_icmp .ge 22, 3) := by decide +kernel
theorem dX12_change_49 : decode cX12_change 49 = .ok (.aload_n 0, 1) := by decide +kernel
theorem dX12_change_50 : decode cX12_change 50 = .ok (.getfield 50, 3) := by decide +kernel
theorem dX12_change_53 : decode cX12_change 53 = .ok (.sipush 1000, 3) := by decide +kernel
theorem dX12_change_56 : decode cX12_change 56 = .ok (.iload_n 1, 1) := by decide +kernel
theorem dX12_change_57 : decode cX12_change 57 = .ok (.imul, 1) := by decide +kernel
theorem dX12_change_58 : decode cX12_change 58 = .ok (.iload_n 3, 1) := by decide +kernel
theorem dX12_change_59 : decode cX12_change 59 = .ok (.iadd, 1) := by decide +kernel
theorem dX12_change_60 : decode cX12_change 60 = .ok (.iload_n 2, 1) := by decide +kernel
theorem dX12_change_61 : decode cX12_change 61 = .ok (.iastore, 1) := by decide +kernel
theorem dX12_change_62 : decode cX12_change 62 = .ok (.iinc 3 1, 3) := by decide +kernel
theorem dX12_change_65 : decode cX12_change 65 = .ok (.goto (-23), 3) := by decide +kernel
theorem dX12_change_68 : decode cX12_change 68 = .ok (.iconst 1, 1) := by decide +kernel
theorem dX12_change_69 : decode cX12_change 69 = .ok (.ireturn, 1) := by decide +kernel
theorem dX12_wrong_0 : decode cX12_wrong 0 = .ok (.aload_n 0, 1) := by decide +kernel
theorem dX12_wrong_1 : decode cX12_wrong 1 = .ok (.iload_n 1, 1) := by decide +kernel
theorem dX12_wrong_2 : decode cX12_wrong 2 = .ok (.putfield 224, 3) := by decide +kernel
theorem dX12_wrong_5 : decode cX12_wrong 5 = .ok (.aload_n 0, 1) := by decide +kernel
theorem dX12_wrong_6 : decode cX12_wrong 6 = .ok (.aload_n 0, 1) := by decide +kernel
theorem dX12_wrong_7 : decode cX12_wrong 7 = .ok (.getfield 227, 3) := by decide +kernel
theorem dX12_wrong_10 : decode cX12_wrong 10 = .ok (.putfield 56, 3) := by decide +kernel
theorem dX12_wrong_13 : decode cX12_wrong 13 = .ok (.iconst 0, 1) := by decide +kernel
theorem dX12_wrong_14 : decode cX12_wrong 14 = .ok (.ireturn, 1) := by decide +kernel
theorem dX12_wordAt_0 : decode cX12_wordAt 0 = .ok (.iconst 0, 1) := by decide +kernel
theorem dX12_wordAt_1 : decode cX12_wordAt 1 = .ok (.istore_n 3, 1) := by decide +kernel
theorem dX12_wordAt_2 : decode cX12_wordAt 2 = .ok (.iconst 0, 1) := by decide +kernel
theorem dX12_wordAt_3 : decode cX12_wordAt 3 = .ok (.istore 4, 2) := by decide +kernel
theorem dX12_wordAt_5 : decode cX12_wordAt 5 = .ok (.iload 4, 2) := by decide +kernel
theorem dX12_wordAt_7 : decode cX12_wordAt 7 = .ok (.aload_n 0, 1) := by decide +kernel
theorem dX12_wordAt_8 : decode cX12_wordAt 8 = .ok (.getfield 53, 3) := by decide +kernel
theorem dX12_wordAt_11 : decode cX12_wordAt 11 = .ok (.arraylength, 1) := by decide +kernel
theorem dX12_wordAt_12 : decode cX12_wordAt 12 = .ok (.if_icmp .ge 114, 3) := by decide +kernel
theorem dX12_wordAt_15 : decode cX12_wordAt 15 = .ok (.iconst 0, 1) := by decide +kernel
theorem dX12_wordAt_16 : decode cX12_wordAt 16 = .ok (.istore 5, 2) := by decide +kernel
theorem dX12_wordAt_18 : decode cX12_wordAt 18 = .ok (.aload_n 0, 1) := by decide +kernel
theorem dX12_wordAt_19 : decode cX12_wordAt 19 = .ok (.getfield 53, 3) := by decide +kernel
theorem dX12_wordAt_22 : decode cX12_wordAt 22 = .ok (.iload 4, 2) := by decide +kernel
theorem dX12_wordAt_24 : decode cX12_wordAt 24 = .ok (.iload 5, 2) := by decide +kernel
theorem dX12_wordAt_26 : decode cX12_wordAt 26 = .ok (.iadd, 1) := by decide +kernel
theorem dX12_wordAt_27 : decode cX12_wordAt 27 = .ok (.iaload, 1) := by decide +kernel
theorem dX12_wordAt_28 : decode cX12_wordAt 28 = .ok (.bipush 32, 2) := by decide +kernel
theorem dX12_wordAt_30 : decode cX12_wordAt 30 = .ok (.if_icmp .eq 9, 3) := by decide +kernel
theorem dX12_wordAt_33 : decode cX12_wordAt 33 = .ok (.iinc 5 1, 3) := by decide +kernel
theorem dX12_wordAt_36 : decode cX12_wordAt 36 = .ok (.goto (-18), 3) := by decide +kernel
theorem dX12_wordAt_39 : decode cX12_wordAt 39 = .ok (.iload 5, 2) := by decide +kernel
theorem dX12_wordAt_41 : decode cX12_wordAt 41 = .ok (.iload_n 2, 1) := by decide +kernel
theorem dX12_wordAt_42 : decode cX12_wordAt 42 = .ok (.iload_n 1, 1) := by decide +kernel
theorem dX12_wordAt_43 : decode cX12_wordAt 43 = .ok (.isub, 1) := by decide +kernel
theorem dX12_wordAt_44 : decode cX12_wordAt 44 = .ok (.if_icmp .ne 7, 3) := by decide +kernel
theorem dX12_wordAt_47 : decode cX12_wordAt 47 = .ok (.iconst 1, 1) := by decide +kernel
theorem dX12_wordAt_48 : decode cX12_wordAt 48 = .ok (.goto 4, 3) := by decide +kernel
theorem dX12_wordAt_51 : decode cX12_wordAt 51 = .ok (.iconst 0, 1) := by decide +kernel
theorem dX12_wordAt_52 : decode cX12_wordAt 52 = .ok (.istore 6, 2) := by decide +kernel
theorem dX12_wordAt_54 : decode cX12_wordAt 54 = .ok (.iconst 0, 1) := by decide +kernel
theorem dX12_wordAt_55 : decode cX12_wordAt 55 = .ok (.istore 7, 2) := by decide +kernel
theorem dX12_wordAt_57 : decode cX12_wordAt 57 = .ok (.iload 7, 2) := by decide +kernel
theorem dX12_wordAt_59 : decode cX12_wordAt 59 = .ok (.iload 5, 2) := by decide +kernel
theorem dX12_wordAt_61 : decode cX12_wordAt 61 = .ok (.if_icmp .ge 43, 3) := by decide +kernel
theorem dX12_wordAt_64 : decode cX12_wordAt 64 = .ok (.iload 6, 2) := by decide +kernel
theorem dX12_wordAt_66 : decode cX12_wordAt 66 = .ok (.ifCond .eq 38, 3) := by decide +kernel
theorem dX12_wordAt_69 : decode cX12_wordAt 69 = .ok (.aload_n 0, 1) := by decide +kernel
theorem dX12_wordAt_70 : decode cX12_wordAt 70 = .ok (.getfield 53, 3) := by decide +kernel
theorem dX12_wordAt_73 : decode cX12_wordAt 73 = .ok (.iload 4, 2) := by decide +kernel
theorem dX12_wordAt_75 : decode cX12_wordAt 75 = .ok (.iload 7, 2) := by decide +kernel
theorem dX12_wordAt_77 : decode cX12_wordAt 77 = .ok (.iadd, 1) := by decide +kernel
theorem dX12_wordAt_78 : decode cX12_wordAt 78 = .ok (.iaload, 1) := by decide +kernel
theorem dX12_wordAt_79 : decode cX12_wordAt 79 = .ok (.aload_n 0, 1) := by decide +kernel
theorem dX12_wordAt_80 : decode cX12_wordAt 80 = .ok (.getfield 7, 3) := by decide +kernel
theorem dX12_wordAt_83 : decode cX12_wordAt 83 = .ok (.iload_n 1, 1) := by decide +kernel
theorem dX12_wordAt_84 : decode cX12_wordAt 84 = .ok (.iload 7, 2) := by decide +kernel
theorem dX12_wordAt_86 : decode cX12_wordAt 86 = .ok (.iadd, 1) := by decide +kernel
theorem dX12_wordAt_87 : decode cX12_wordAt 87 = .ok (.iaload, 1) := by decide +kernel
theorem dX12_wordAt_88 : decode cX12_wordAt 88 = .ok (.if_icmp .ne 7, 3) := by decide +kernel
theorem dX12_wordAt_91 : decode cX12_wordAt 91 = .ok (.iconst 1, 1) := by decide +kernel
theorem dX12_wordAt_92 : decode cX12_wordAt 92 = .ok (.goto 4, 3) := by decide +kernel
theorem dX12_wordAt_95 : decode cX12_wordAt 95 = .ok (.iconst 0, 1) := by decide +kernel
theorem dX12_wordAt_96 : decode cX12_wordAt 96 = .ok (.istore 6, 2) := by decide +kernel
theorem dX12_wordAt_98 : decode cX12_wordAt 98 = .ok (.iinc 7 1, 3) := by decide +kernel
theorem dX12_wordAt_101 : decode cX12_wordAt 101 = .ok (.goto (-44), 3) := by decide +kernel
theorem dX12_wordAt_104 : decode cX12_wordAt 104 = .ok (.iload 6, 2) := by decide +kernel
theorem dX12_wordAt_106 : decode cX12_wordAt 106 = .ok (.ifCond .eq 5, 3) := by decide +kernel
theorem dX12_wordAt_109 : decode cX12_wordAt 109 = .ok (.iload_n 3, 1) := by decide +kernel
theorem dX12_wordAt_110 : decode cX12_wordAt 110 = .ok (.ireturn, 1) := by decide +kernel
theorem dX12_wordAt_111 : decode cX12_wordAt 111 = .ok (.iload 4, 2) := by decide +kernel
theorem dX12_wordAt_113 : decode cX12_wordAt 113 = .ok (.iload 5, 2) := by decide +kernel
theorem dX12_wordAt_115 : decode cX12_wordAt 115 = .ok (.iconst 1, 1) := by decide +kernel
theorem dX12_wordAt_116 : decode cX12_wordAt 116 = .ok (.iadd, 1) := by decide +kernel
theorem dX12_wordAt_117 : decode cX12_wordAt 117 = .ok (.iadd, 1) := by decide +kernel
theorem dX12_wordAt_118 : decode cX12_wordAt 118 = .ok (.istore 4, 2) := by decide +kernel
theorem dX12_wordAt_120 : decode cX12_wordAt 120 = .ok (.iinc 3 1, 3) := by decide +kernel
theorem dX12_wordAt_123 : decode cX12_wordAt 123 = .ok (.goto (-118), 3) := by decide +kernel
theorem dX12_wordAt_126 : decode cX12_wordAt 126 = .ok (.iconst (-1), 1) := by decide +kernel
theorem dX12_wordAt_127 : decode cX12_wordAt 127 = .ok (.ireturn, 1) := by decide +kernel
theorem dX12_isSmall_0 : decode cX12_isSmall 0 = .ok (.iload_n 1, 1) := by decide +kernel
theorem dX12_isSmall_1 : decode cX12_isSmall 1 = .ok (.aload_n 0, 1) := by decide +kernel
theorem dX12_isSmall_2 : decode cX12_isSmall 2 = .ok (.getfield 230, 3) := by decide +kernel
theorem dX12_isSmall_5 : decode cX12_isSmall 5 = .ok (.if_icmp .ge 29, 3) := by decide +kernel
theorem dX12_isSmall_8 : decode cX12_isSmall 8 = .ok (.aload_n 0, 1) := by decide +kernel
theorem dX12_isSmall_9 : decode cX12_isSmall 9 = .ok (.getfield 7, 3) := by decide +kernel
theorem dX12_isSmall_12 : decode cX12_isSmall 12 = .ok (.iload_n 1, 1) := by decide +kernel
theorem dX12_isSmall_13 : decode cX12_isSmall 13 = .ok (.iaload, 1) := by decide +kernel
theorem dX12_isSmall_14 : decode cX12_isSmall 14 = .ok (.bipush 97, 2) := by decide +kernel
theorem dX12_isSmall_16 : decode cX12_isSmall 16 = .ok (.if_icmp .lt 18, 3) := by decide +kernel
theorem dX12_isSmall_19 : decode cX12_isSmall 19 = .ok (.aload_n 0, 1) := by decide +kernel
theorem dX12_isSmall_20 : decode cX12_isSmall 20 = .ok (.getfield 7, 3) := by decide +kernel
theorem dX12_isSmall_23 : decode cX12_isSmall 23 = .ok (.iload_n 1, 1) := by decide +kernel
theorem dX12_isSmall_24 : decode cX12_isSmall 24 = .ok (.iaload, 1) := by decide +kernel
theorem dX12_isSmall_25 : decode cX12_isSmall 25 = .ok (.bipush 122, 2) := by decide +kernel
theorem dX12_isSmall_27 : decode cX12_isSmall 27 = .ok (.if_icmp .gt 7, 3) := by decide +kernel
theorem dX12_isSmall_30 : decode cX12_isSmall 30 = .ok (.iconst 1, 1) := by decide +kernel
theorem dX12_isSmall_31 : decode cX12_isSmall 31 = .ok (.goto 4, 3) := by decide +kernel
theorem dX12_isSmall_34 : decode cX12_isSmall 34 = .ok (.iconst 0, 1) := by decide +kernel
theorem dX12_isSmall_35 : decode cX12_isSmall 35 = .ok (.ireturn, 1) := by decide +kernel
theorem dX12_isDigit_0 : decode cX12_isDigit 0 = .ok (.iload_n 1, 1) := by decide +kernel
theorem dX12_isDigit_1 : decode cX12_isDigit 1 = .ok (.aload_n 0, 1) := by decide +kernel
theorem dX12_isDigit_2 : decode cX12_isDigit 2 = .ok (.getfield 230, 3) := by decide +kernel
theorem dX12_isDigit_5 : decode cX12_isDigit 5 = .ok (.if_icmp .ge 29, 3) := by decide +kernel
theorem dX12_isDigit_8 : decode cX12_isDigit 8 = .ok (.aload_n 0, 1) := by decide +kernel
theorem dX12_isDigit_9 : decode cX12_isDigit 9 = .ok (.getfield 7, 3) := by decide +kernel
theorem dX12_isDigit_12 : decode cX12_isDigit 12 = .ok (.iload_n 1, 1) := by decide +kernel
theorem dX12_isDigit_13 : decode cX12_isDigit 13 = .ok (.iaload, 1) := by decide +kernel
theorem dX12_isDigit_14 : decode cX12_isDigit 14 = .ok (.bipush 48, 2) := by decide +kernel
theorem dX12_isDigit_16 : decode cX12_isDigit 16 = .ok (.if_icmp .lt 18, 3) := by decide +kernel
theorem dX12_isDigit_19 : decode cX12_isDigit 19 = .ok (.aload_n 0, 1) := by decide +kernel
theorem dX12_isDigit_20 : decode cX12_isDigit 20 = .ok (.getfield 7, 3) := by decide +kernel
theorem dX12_isDigit_23 : decode cX12_isDigit 23 = .ok (.iload_n 1, 1) := by decide +kernel
theorem dX12_isDigit_24 : decode cX12_isDigit 24 = .ok (.iaload, 1) := by decide +kernel
theorem dX12_isDigit_25 : decode cX12_isDigit 25 = .ok (.bipush 57, 2) := by decide +kernel
theorem dX12_isDigit_27 : decode cX12_isDigit 27 = .ok (.if_icmp .gt 7, 3) := by decide +kernel
theorem dX12_isDigit_30 : decode cX12_isDigit 30 = .ok (.iconst 1, 1) := by decide +kernel
theorem dX12_isDigit_31 : decode cX12_isDigit 31 = .ok (.goto 4, 3) := by decide +kernel
theorem dX12_isDigit_34 : decode cX12_isDigit 34 = .ok (.iconst 0, 1) := by decide +kernel
theorem dX12_isDigit_35 : decode cX12_isDigit 35 = .ok (.ireturn, 1) := by decide +kernel
theorem dX12_take_0 : decode cX12_take 0 = .ok (.aload_n 0, 1) := by decide +kernel
theorem dX12_take_1 : decode cX12_take 1 = .ok (.getfield 233, 3) := by decide +kernel
theorem dX12_take_4 : decode cX12_take 4 = .ok (.aload_n 0, 1) := by decide +kernel
theorem dX12_take_5 : decode cX12_take 5 = .ok (.getfield 230, 3) := by decide +kernel
theorem dX12_take_8 : decode cX12_take 8 = .ok (.if_icmp .ge 44, 3) := by decide +kernel
theorem dX12_take_11 : decode cX12_take 11 = .ok (.aload_n 0, 1) := by decide +kernel
theorem dX12_take_12 : decode cX12_take 12 = .ok (.getfield 7, 3) := by decide +kernel
theorem dX12_take_15 : decode cX12_take 15 = .ok (.aload_n 0, 1) := by decide +kernel
theorem dX12_take_16 : decode cX12_take 16 = .ok (.getfield 233, 3) := by decide +kernel
theorem dX12_take_19 : decode cX12_take 19 = .ok (.iaload, 1) := by decide +kernel
theorem dX12_take_20 : decode cX12_take 20 = .ok (.bipush 10, 2) := by decide +kernel
theorem dX12_take_22 : decode cX12_take 22 = .ok (.if_icmp .eq 17, 3) := by decide +kernel
theorem dX12_take_25 : decode cX12_take 25 = .ok (.aload_n 0, 1) := by decide +kernel
theorem dX12_take_26 : decode cX12_take 26 = .ok (.getfield 7, 3) := by decide +kernel
theorem dX12_take_29 : decode cX12_take 29 = .ok (.aload_n 0, 1) := by decide +kernel
theorem dX12_take_30 : decode cX12_take 30 = .ok (.getfield 233, 3) := by decide +kernel
theorem dX12_take_33 : decode cX12_take 33 = .ok (.iaload, 1) := by decide +kernel
theorem dX12_take_34 : decode cX12_take 34 = .ok (.bipush 32, 2) := by decide +kernel
theorem dX12_take_36 : decode cX12_take 36 = .ok (.if_icmp .ne 16, 3) := by decide +kernel
theorem dX12_take_39 : decode cX12_take 39 = .ok (.aload_n 0, 1) := by decide +kernel
theorem dX12_take_40 : decode cX12_take 40 = .ok (.dup, 1) := by decide +kernel
theorem dX12_take_41 : decode cX12_take 41 = .ok (.getfield 233, 3) := by decide +kernel
theorem dX12_take_44 : decode cX12_take 44 = .ok (.iconst 1, 1) := by decide +kernel
theorem dX12_take_45 : decode cX12_take 45 = .ok (.iadd, 1) := by decide +kernel
theorem dX12_take_46 : decode cX12_take 46 = .ok (.putfield 233, 3) := by decide +kernel
theorem dX12_take_49 : decode cX12_take 49 = .ok (.goto (-49), 3) := by decide +kernel
theorem dX12_take_52 : decode cX12_take 52 = .ok (.aload_n 0, 1) := by decide +kernel
theorem dX12_take_53 : decode cX12_take 53 = .ok (.aload_n 0, 1) := by decide +kernel
theorem dX12_take_54 : decode cX12_take 54 = .ok (.getfield 233, 3) := by decide +kernel
theorem dX12_take_57 : decode cX12_take 57 = .ok (.putfield 227, 3) := by decide +kernel
theorem dX12_take_60 : decode cX12_take 60 = .ok (.aload_n 0, 1) := by decide +kernel
theorem dX12_take_61 : decode cX12_take 61 = .ok (.getfield 233, 3) := by decide +kernel
theorem dX12_take_64 : decode cX12_take 64 = .ok (.aload_n 0, 1) := by decide +kernel
theorem dX12_take_65 : decode cX12_take 65 = .ok (.getfield 230, 3) := by decide +kernel
theorem dX12_take_68 : decode cX12_take 68 = .ok (.if_icmp .ne 11, 3) := by decide +kernel
theorem dX12_take_71 : decode cX12_take 71 = .ok (.aload_n 0, 1) := by decide +kernel
theorem dX12_take_72 : decode cX12_take 72 = .ok (.iconst 0, 1) := by decide +kernel
theorem dX12_take_73 : decode cX12_take 73 = .ok (.putfield 236, 3) := by decide +kernel
theorem dX12_take_76 : decode cX12_take 76 = .ok (.goto 295, 3) := by decide +kernel
theorem dX12_take_79 : decode cX12_take 79 = .ok (.aload_n 0, 1) := by decide +kernel
theorem dX12_take_80 : decode cX12_take 80 = .ok (.aload_n 0, 1) := by decide +kernel
theorem dX12_take_81 : decode cX12_take 81 = .ok (.getfield 233, 3) := by decide +kernel
theorem dX12_take_84 : decode cX12_take 84 = .ok (.invokevirtual 239, 3) := by decide +kernel
theorem dX12_take_87 : decode cX12_take 87 = .ok (.ifCond .eq 121, 3) := by decide +kernel
theorem dX12_take_90 : decode cX12_take 90 = .ok (.aload_n 0, 1) := by decide +kernel
theorem dX12_take_91 : decode cX12_take 91 = .ok (.aload_n 0, 1) := by decide +kernel
theorem dX12_take_92 : decode cX12_take 92 = .ok (.getfield 233, 3) := by decide +kernel
theorem dX12_take_95 : decode cX12_take 95 = .ok (.invokevirtual 239, 3) := by decide +kernel
theorem dX12_take_98 : decode cX12_take 98 = .ok (.ifCond .eq 16, 3) := by decide +kernel
theorem dX12_take_101 : decode cX12_take 101 = .ok (.aload_n 0, 1) := by decide +kernel
theorem dX12_take_102 : decode cX12_take 102 = .ok (.dup, 1) := by decide +kernel
theorem dX12_take_103 : decode cX12_take 103 = .ok (.getfield 233, 3) := by decide +kernel
theorem dX12_take_106 : decode cX12_take 106 = .ok (.iconst 1, 1) := by decide +kernel
theorem dX12_take_107 : decode cX12_take 107 = .ok (.iadd, 1) := by decide +kernel
theorem dX12_take_108 : decode cX12_take 108 = .ok (.putfield 233, 3) := by decide +kernel
theorem dX12_take_111 : decode cX12_take 111 = .ok (.goto (-21), 3) := by decide +kernel
theorem dX12_take_114 : decode cX12_take 114 = .ok (.aload_n 0, 1) := by decide +kernel
theorem dX12_take_115 : decode cX12_take 115 = .ok (.getfield 233, 3) := by decide +kernel
theorem dX12_take_118 : decode cX12_take 118 = .ok (.aload_n 0, 1) := by decide +kernel
theorem dX12_take_119 : decode cX12_take 119 = .ok (.getfield 227, 3) := by decide +kernel
theorem dX12_take_122 : decode cX12_take 122 = .ok (.iconst 1, 1) := by decide +kernel
theorem dX12_take_123 : decode cX12_take 123 = .ok (.iadd, 1) := by decide +kernel
theorem dX12_take_124 : decode cX12_take 124 = .ok (.if_icmp .ne 7, 3) := by decide +kernel
theorem dX12_take_127 : decode cX12_take 127 = .ok (.iconst 1, 1) := by decide +kernel
theorem dX12_take_128 : decode cX12_take 128 = .ok (.goto 4, 3) := by decide +kernel
theorem dX12_take_131 : decode cX12_take 131 = .ok (.iconst 0, 1) := by decide +kernel
theorem dX12_take_132 : decode cX12_take 132 = .ok (.istore_n 1, 1) := by decide +kernel
theorem dX12_take_133 : decode cX12_take 133 = .ok (.aload_n 0, 1) := by decide +kernel
theorem dX12_take_134 : decode cX12_take 134 = .ok (.iload_n 1, 1) := by decide +kernel
theorem dX12_take_135 : decode cX12_take 135 = .ok (.ifCond .eq 18, 3) := by decide +kernel
theorem dX12_take_138 : decode cX12_take 138 = .ok (.aload_n 0, 1) := by decide +kernel
theorem dX12_take_139 : decode cX12_take 139 = .ok (.getfield 7, 3) := by decide +kernel
theorem dX12_take_142 : decode cX12_take 142 = .ok (.aload_n 0, 1) := by decide +kernel
theorem dX12_take_143 : decode cX12_take 143 = .ok (.getfield 227, 3) := by decide +kernel
theorem dX12_take_146 : decode cX12_take 146 = .ok (.iaload, 1) := by decide +kernel
theorem dX12_take_147 : decode cX12_take 147 = .ok (.bipush 97, 2) := by decide +kernel
theorem dX12_take_149 : decode cX12_take 149 = .ok (.isub, 1) := by decide +kernel
theorem dX12_take_150 : decode cX12_take 150 = .ok (.goto 15, 3) := by decide +kernel
theorem dX12_take_153 : decode cX12_take 153 = .ok (.aload_n 0, 1) := by decide +kernel
theorem dX12_take_154 : decode cX12_take 154 = .ok (.aload_n 0, 1) := by decide +kernel
theorem dX12_take_155 : decode cX12_take 155 = .ok (.getfield 227, 3) := by decide +kernel
theorem dX12_take_158 : decode cX12_take 158 = .ok (.aload_n 0, 1) := by decide +kernel
theorem dX12_take_159 : decode cX12_take 159 = .ok (.getfield 233, 3) := by decide +kernel
theorem dX12_take_162 : decode cX12_take 162 = .ok (.invokevirtual 242, 3) := by decide +kernel
theorem dX12_take_165 : decode cX12_take 165 = .ok (.putfield 245, 3) := by decide +kernel
theorem dX12_take_168 : decode cX12_take 168 = .ok (.aload_n 0, 1) := by decide +kernel
theorem dX12_take_169 : decode cX12_take 169 = .ok (.iload_n 1, 1) := by decide +kernel
theorem dX12_take_170 : decode cX12_take 170 = .ok (.ifCond .eq 20, 3) := by decide +kernel
theorem dX12_take_173 : decode cX12_take 173 = .ok (.aload_n 0, 1) := by decide +kernel
theorem dX12_take_174 : decode cX12_take 174 = .ok (.getfield 245, 3) := by decide +kernel
theorem dX12_take_177 : decode cX12_take 177 = .ok (.bipush 8, 2) := by decide +kernel
theorem dX12_take_179 : decode cX12_take 179 = .ok (.if_icmp .ge 7, 3) := by decide +kernel
theorem dX12_take_182 : decode cX12_take 182 = .ok (.iconst 2, 1) := by decide +kernel
theorem dX12_take_183 : decode cX12_take 183 = .ok (.goto 19, 3) := by decide +kernel
theorem dX12_take_186 : decode cX12_take 186 = .ok (.iconst 5, 1) := by decide +kernel
theorem dX12_take_187 : decode cX12_take 187 = .ok (.goto 15, 3) := by decide +kernel
theorem dX12_take_190 : decode cX12_take 190 = .ok (.aload_n 0, 1) := by decide +kernel
theorem dX12_take_191 : decode cX12_take 191 = .ok (.getfield 245, 3) := by decide +kernel
theorem dX12_take_194 : decode cX12_take 194 = .ok (.ifCond .ge 7, 3) := by decide +kernel
theorem dX12_take_197 : decode cX12_take 197 = .ok (.iconst 5, 1) := by decide +kernel
theorem dX12_take_198 : decode cX12_take 198 = .ok (.goto 4, 3) := by decide +kernel
theorem dX12_take_201 : decode cX12_take 201 = .ok (.iconst 1, 1) := by decide +kernel
theorem dX12_take_202 : decode cX12_take 202 = .ok (.putfield 236, 3) := by decide +kernel
theorem dX12_take_205 : decode cX12_take 205 = .ok (.goto 166, 3) := by decide +kernel
theorem dX12_take_208 : decode cX12_take 208 = .ok (.aload_n 0, 1) := by decide +kernel
theorem dX12_take_209 : decode cX12_take 209 = .ok (.aload_n 0, 1) := by decide +kernel
theorem dX12_take_210 : decode cX12_take 210 = .ok (.getfield 233, 3) := by decide +kernel
theorem dX12_take_213 : decode cX12_take 213 = .ok (.invokevirtual 248, 3) := by decide +kernel
theorem dX12_take_216 : decode cX12_take 216 = .ok (.ifCond .eq 78, 3) := by decide +kernel
theorem dX12_take_219 : decode cX12_take 219 = .ok (.aload_n 0, 1) := by decide +kernel
theorem dX12_take_220 : decode cX12_take 220 = .ok (.iconst 3, 1) := by decide +kernel
theorem dX12_take_221 : decode cX12_take 221 = .ok (.putfield 236, 3) := by decide +kernel
theorem dX12_take_224 : decode cX12_take 224 = .ok (.aload_n 0, 1) := by decide +kernel
theorem dX12_take_225 : decode cX12_take 225 = .ok (.iconst 0, 1) := by decide +kernel
theorem dX12_take_226 : decode cX12_take 226 = .ok (.putfield 245, 3) := by decide +kernel
theorem dX12_take_229 : decode cX12_take 229 = .ok (.aload_n 0, 1) := by decide +kernel
theorem dX12_take_230 : decode cX12_take 230 = .ok (.aload_n 0, 1) := by decide +kernel
theorem dX12_take_231 : decode cX12_take 231 = .ok (.getfield 233, 3) := by decide +kernel
theorem dX12_take_234 : decode cX12_take 234 = .ok (.invokevirtual 248, 3) := by decide +kernel
theorem dX12_take_237 : decode cX12_take 237 = .ok (.ifCond .eq 134, 3) := by decide +kernel
theorem dX12_take_240 : decode cX12_take 240 = .ok (.aload_n 0, 1) := by decide +kernel
theorem dX12_take_241 : decode cX12_take 241 = .ok (.aload_n 0, 1) := by decide +kernel
theorem dX12_take_242 : decode cX12_take 242 = .ok (.getfield 245, 3) := by decide +kernel
theorem dX12_take_245 : decode cX12_take 245 = .ok (.sipush 999, 3) := by decide +kernel
theorem dX12_take_248 : decode cX12_take 248 = .ok (.if_icmp .le 10, 3) := by decide +kernel
theorem dX12_take_251 : decode cX12_take 251 = .ok (.aload_n 0, 1) := by decide +kernel
theorem dX12_take_252 : decode cX12_take 252 = .ok (.getfield 245, 3) := by decide +kernel
theorem dX12_take_255 : decode cX12_take 255 = .ok (.goto 23, 3) := by decide +kernel
theorem dX12_take_258 : decode cX12_take 258 = .ok (.bipush 10, 2) := by decide +kernel
theorem dX12_take_260 : decode cX12_take 260 = .ok (.aload_n 0, 1) := by decide +kernel
theorem dX12_take_261 : decode cX12_take 261 = .ok (.getfield 245, 3) := by decide +kernel
theorem dX12_take_264 : decode cX12_take 264 = .ok (.imul, 1) := by decide +kernel
theorem dX12_take_265 : decode cX12_take 265 = .ok (.aload_n 0, 1) := by decide +kernel
theorem dX12_take_266 : decode cX12_take 266 = .ok (.getfield 7, 3) := by decide +kernel
theorem dX12_take_269 : decode cX12_take 269 = .ok (.aload_n 0, 1) := by decide +kernel
theorem dX12_take_270 : decode cX12_take 270 = .ok (.getfield 233, 3) := by decide +kernel
theorem dX12_take_273 : decode cX12_take 273 = .ok (.iaload, 1) := by decide +kernel
theorem dX12_take_274 : decode cX12_take 274 = .ok (.iadd, 1) := by decide +kernel
theorem dX12_take_275 : decode cX12_take 275 = .ok (.bipush 48, 2) := by decide +kernel
theorem dX12_take_277 : decode cX12_take 277 = .ok (.isub, 1) := by decide +kernel
theorem dX12_take_278 : decode cX12_take 278 = .ok (.putfield 245, 3) := by decide +kernel
theorem dX12_take_281 : decode cX12_take 281 = .ok (.aload_n 0, 1) := by decide +kernel
theorem dX12_take_282 : decode cX12_take 282 = .ok (.dup, 1) := by decide +kernel
theorem dX12_take_283 : decode cX12_take 283 = .ok (.getfield 233, 3) := by decide +kernel
theorem dX12_take_286 : decode cX12_take 286 = .ok (.iconst 1, 1) := by decide +kernel
theorem dX12_take_287 : decode cX12_take 287 = .ok (.iadd, 1) := by decide +kernel
theorem dX12_take_288 : decode cX12_take 288 = .ok (.putfield 233, 3) := by decide +kernel
theorem dX12_take_291 : decode cX12_take 291 = .ok (.goto (-62), 3) := by decide +kernel
theorem dX12_take_294 : decode cX12_take 294 = .ok (.aload_n 0, 1) := by decide +kernel
theorem dX12_take_295 : decode cX12_take 295 = .ok (.aload_n 0, 1) := by decide +kernel
theorem dX12_take_296 : decode cX12_take 296 = .ok (.getfield 7, 3) := by decide +kernel
theorem dX12_take_299 : decode cX12_take 299 = .ok (.aload_n 0, 1) := by decide +kernel
theorem dX12_take_300 : decode cX12_take 300 = .ok (.getfield 233, 3) := by decide +kernel
theorem dX12_take_303 : decode cX12_take 303 = .ok (.iaload, 1) := by decide +kernel
theorem dX12_take_304 : decode cX12_take 304 = .ok (.putfield 245, 3) := by decide +kernel
theorem dX12_take_307 : decode cX12_take 307 = .ok (.aload_n 0, 1) := by decide +kernel
theorem dX12_take_308 : decode cX12_take 308 = .ok (.aload_n 0, 1) := by decide +kernel
theorem dX12_take_309 : decode cX12_take 309 = .ok (.getfield 245, 3) := by decide +kernel
theorem dX12_take_312 : decode cX12_take 312 = .ok (.bipush 59, 2) := by decide +kernel
theorem dX12_take_314 : decode cX12_take 314 = .ok (.if_icmp .eq 39, 3) := by decide +kernel
theorem dX12_take_317 : decode cX12_take 317 = .ok (.aload_n 0, 1) := by decide +kernel
theorem dX12_take_318 : decode cX12_take 318 = .ok (.getfield 245, 3) := by decide +kernel
theorem dX12_take_321 : decode cX12_take 321 = .ok (.bipush 40, 2) := by decide +kernel
theorem dX12_take_323 : decode cX12_take 323 = .ok (.if_icmp .eq 30, 3) := by decide +kernel
theorem dX12_take_326 : decode cX12_take 326 = .ok (.aload_n 0, 1) := by decide +kernel
theorem dX12_take_327 : decode cX12_take 327 = .ok (.getfield 245, 3) := by decide +kernel
theorem dX12_take_330 : decode cX12_take 330 = .ok (.bipush 41, 2) := by decide +kernel
theorem dX12_take_332 : decode cX12_take 332 = .ok (.if_icmp .eq 21, 3) := by decide +kernel
theorem dX12_take_335 : decode cX12_take 335 = .ok (.aload_n 0, 1) := by decide +kernel
theorem dX12_take_336 : decode cX12_take 336 = .ok (.getfield 245, 3) := by decide +kernel
theorem dX12_take_339 : decode cX12_take 339 = .ok (.bipush 43, 2) := by decide +kernel
theorem dX12_take_341 : decode cX12_take 341 = .ok (.if_icmp .eq 12, 3) := by decide +kernel
theorem dX12_take_344 : decode cX12_take 344 = .ok (.aload_n 0, 1) := by decide +kernel
theorem dX12_take_345 : decode cX12_take 345 = .ok (.getfield 245, 3) := by decide +kernel
theorem dX12_take_348 : decode cX12_take 348 = .ok (.bipush 45, 2) := by decide +kernel
theorem dX12_take_350 : decode cX12_take 350 = .ok (.if_icmp .ne 7, 3) := by decide +kernel
theorem dX12_take_353 : decode cX12_take 353 = .ok (.iconst 4, 1) := by decide +kernel
theorem dX12_take_354 : decode cX12_take 354 = .ok (.goto 4, 3) := by decide +kernel
theorem dX12_take_357 : decode cX12_take 357 = .ok (.iconst 5, 1) := by decide +kernel
theorem dX12_take_358 : decode cX12_take 358 = .ok (.putfield 236, 3) := by decide +kernel
theorem dX12_take_361 : decode cX12_take 361 = .ok (.aload_n 0, 1) := by decide +kernel
theorem dX12_take_362 : decode cX12_take 362 = .ok (.dup, 1) := by decide +kernel
theorem dX12_take_363 : decode cX12_take 363 = .ok (.getfield 233, 3) := by decide +kernel
theorem dX12_take_366 : decode cX12_take 366 = .ok (.iconst 1, 1) := by decide +kernel
theorem dX12_take_367 : decode cX12_take 367 = .ok (.iadd, 1) := by decide +kernel
theorem dX12_take_368 : decode cX12_take 368 = .ok (.putfield 233, 3) := by decide +kernel
theorem dX12_take_371 : decode cX12_take 371 = .ok (.return_, 1) := by decide +kernel
theorem dX12_isSign_0 : decode cX12_isSign 0 = .ok (.aload_n 0, 1) := by decide +kernel
theorem dX12_isSign_1 : decode cX12_isSign 1 = .ok (.getfield 236, 3) := by decide +kernel
theorem dX12_isSign_4 : decode cX12_isSign 4 = .ok (.iconst 4, 1) := by decide +kernel
theorem dX12_isSign_5 : decode cX12_isSign 5 = .ok (.if_icmp .ne 15, 3) := by decide +kernel
theorem dX12_isSign_8 : decode cX12_isSign 8 = .ok (.aload_n 0, 1) := by decide +kernel
theorem dX12_isSign_9 : decode cX12_isSign 9 = .ok (.getfield 245, 3) := by decide +kernel
theorem dX12_isSign_12 : decode cX12_isSign 12 = .ok (.iload_n 1, 1) := by decide +kernel
theorem dX12_isSign_13 : decode cX12_isSign 13 = .ok (.if_icmp .ne 7, 3) := by decide +kernel
theorem dX12_isSign_16 : decode cX12_isSign 16 = .ok (.iconst 1, 1) := by decide +kernel
theorem dX12_isSign_17 : decode cX12_isSign 17 = .ok (.goto 4, 3) := by decide +kernel
theorem dX12_isSign_20 : decode cX12_isSign 20 = .ok (.iconst 0, 1) := by decide +kernel
theorem dX12_isSign_21 : decode cX12_isSign 21 = .ok (.ireturn, 1) := by decide +kernel
theorem dX12_comesSign_0 : decode cX12_comesSign 0 = .ok (.aload_n 0, 1) := by decide +kernel
theorem dX12_comesSign_1 : decode cX12_comesSign 1 = .ok (.iload_n 1, 1) := by decide +kernel
theorem dX12_comesSign_2 : decode cX12_comesSign 2 = .ok (.invokevirtual 251, 3) := by decide +kernel
theorem dX12_comesSign_5 : decode cX12_comesSign 5 = .ok (.ifCond .ne 9, 3) := by decide +kernel
theorem dX12_comesSign_8 : decode cX12_comesSign 8 = .ok (.aload_n 0, 1) := by decide +kernel
theorem dX12_comesSign_9 : decode cX12_comesSign 9 = .ok (.iconst 1, 1) := by decide +kernel
theorem dX12_comesSign_10 : decode cX12_comesSign 10 = .ok (.invokevirtual 254, 3) := by decide +kernel
theorem dX12_comesSign_13 : decode cX12_comesSign 13 = .ok (.ireturn, 1) := by decide +kernel
theorem dX12_comesSign_14 : decode cX12_comesSign 14 = .ok (.aload_n 0, 1) := by decide +kernel
theorem dX12_comesSign_15 : decode cX12_comesSign 15 = .ok (.invokevirtual 257, 3) := by decide +kernel
theorem dX12_comesSign_18 : decode cX12_comesSign 18 = .ok (.iconst 1, 1) := by decide +kernel
theorem dX12_comesSign_19 : decode cX12_comesSign 19 = .ok (.ireturn, 1) := by decide +kernel
theorem dX12_isAround_0 : decode cX12_isAround 0 = .ok (.iconst 0, 1) := by decide +kernel
theorem dX12_isAround_1 : decode cX12_isAround 1 = .ok (.istore_n 2, 1) := by decide +kernel
theorem dX12_isAround_2 : decode cX12_isAround 2 = .ok (.iload_n 2, 1) := by decide +kernel
theorem dX12_isAround_3 : decode cX12_isAround 3 = .ok (.aload_n 0, 1) := by decide +kernel
theorem dX12_isAround_4 : decode cX12_isAround 4 = .ok (.getfield 260, 3) := by decide +kernel
theorem dX12_isAround_7 : decode cX12_isAround 7 = .ok (.if_icmp .ge 42, 3) := by decide +kernel
theorem dX12_isAround_10 : decode cX12_isAround 10 = .ok (.aload_n 0, 1) := by decide +kernel
theorem dX12_isAround_11 : decode cX12_isAround 11 = .ok (.getfield 59, 3) := by decide +kernel
theorem dX12_isAround_14 : decode cX12_isAround 14 = .ok (.aload_n 0, 1) := by decide +kernel
theorem dX12_isAround_15 : decode cX12_isAround 15 = .ok (.getfield 83, 3) := by decide +kernel
theorem dX12_isAround_18 : decode cX12_isAround 18 = .ok (.iload_n 2, 1) := by decide +kernel
theorem dX12_isAround_19 : decode cX12_isAround 19 = .ok (.iaload, 1) := by decide +kernel
theorem dX12_isAround_20 : decode cX12_isAround 20 = .ok (.iaload, 1) := by decide +kernel
theorem dX12_isAround_21 : decode cX12_isAround 21 = .ok (.bipush 6, 2) := by decide +kernel
theorem dX12_isAround_23 : decode cX12_isAround 23 = .ok (.if_icmp .ne 20, 3) := by decide +kernel
theorem dX12_isAround_26 : decode cX12_isAround 26 = .ok (.aload_n 0, 1) := by decide +kernel
theorem dX12_isAround_27 : decode cX12_isAround 27 = .ok (.getfield 65, 3) := by decide +kernel
theorem dX12_isAround_30 : decode cX12_isAround 30 = .ok (.aload_n 0, 1) := by decide +kernel
theorem dX12_isAround_31 : decode cX12_isAround 31 = .ok (.getfield 83, 3) := by decide +kernel
theorem dX12_isAround_34 : decode cX12_isAround 34 = .ok (.iload_n 2, 1) := by decide +kernel
theorem dX12_isAround_35 : decode cX12_isAround 35 = .ok (.iaload, 1) := by decide +kernel
theorem dX12_isAround_36 : decode cX12_isAround 36 = .ok (.iaload, 1) := by decide +kernel
theorem dX12_isAround_37 : decode cX12_isAround 37 = .ok (.iload_n 1, 1) := by decide +kernel
theorem dX12_isAround_38 : decode cX12_isAround 38 = .ok (.if_icmp .ne 5, 3) := by decide +kernel
theorem dX12_isAround_41 : decode cX12_isAround 41 = .ok (.iconst 1, 1) := by decide +kernel
theorem dX12_isAround_42 : decode cX12_isAround 42 = .ok (.ireturn, 1) := by decide +kernel
theorem dX12_isAround_43 : decode cX12_isAround 43 = .ok (.iinc 2 1, 3) := by decide +kernel
theorem dX12_isAround_46 : decode cX12_isAround 46 = .ok (.goto (-44), 3) := by decide +kernel
theorem dX12_isAround_49 : decode cX12_isAround 49 = .ok (.iconst 0, 1) := by decide +kernel
theorem dX12_isAround_50 : decode cX12_isAround 50 = .ok (.ireturn, 1) := by decide +kernel
theorem dX12_numberRead_0 : decode cX12_numberRead 0 = .ok (.aload_n 0, 1) := by decide +kernel
theorem dX12_numberRead_1 : decode cX12_numberRead 1 = .ok (.getfield 236, 3) := by decide +kernel
theorem dX12_numberRead_4 : decode cX12_numberRead 4 = .ok (.iconst 3, 1) := by decide +kernel
theorem dX12_numberRead_5 : decode cX12_numberRead 5 = .ok (.if_icmp .eq 9, 3) := by decide +kernel
theorem dX12_numberRead_8 : decode cX12_numberRead 8 = .ok (.aload_n 0, 1) := by decide +kernel
theorem dX12_numberRead_9 : decode cX12_numberRead 9 = .ok (.iconst 1, 1) := by decide +kernel
theorem dX12_numberRead_10 : decode cX12_numberRead 10 = .ok (.invokevirtual 254, 3) := by decide +kernel
theorem dX12_numberRead_13 : decode cX12_numberRead 13 = .ok (.ireturn, 1) := by decide +kernel
theorem dX12_numberRead_14 : decode cX12_numberRead 14 = .ok (.aload_n 0, 1) := by decide +kernel
theorem dX12_numberRead_15 : decode cX12_numberRead 15 = .ok (.getfield 245, 3) := by decide +kernel
theorem dX12_numberRead_18 : decode cX12_numberRead 18 = .ok (.iload_n 1, 1) := by decide +kernel
theorem dX12_numberRead_19 : decode cX12_numberRead 19 = .ok (.if_icmp .lt 11, 3) := by decide +kernel
theorem dX12_numberRead_22 : decode cX12_numberRead 22 = .ok (.aload_n 0, 1) := by decide +kernel
theorem dX12_numberRead_23 : decode cX12_numberRead 23 = .ok (.getfield 245, 3) := by decide +kernel
theorem dX12_numberRead_26 : decode cX12_numberRead 26 = .ok (.iload_n 2, 1) := by decide +kernel
theorem dX12_numberRead_27 : decode cX12_numberRead 27 = .ok (.if_icmp .le 11, 3) := by decide +kernel
theorem dX12_numberRead_30 : decode cX12_numberRead 30 = .ok (.aload_n 0, 1) := by decide +kernel
theorem dX12_numberRead_31 : decode cX12_numberRead 31 = .ok (.iconst 2, 1) := by decide +kernel
theorem dX12_numberRead_32 : decode cX12_numberRead 32 = .ok (.invokevirtual 254, 3) := by decide +kernel
theorem dX12_numberRead_35 : decode cX12_numberRead 35 = .ok (.ifCond .eq 7, 3) := by decide +kernel
theorem dX12_numberRead_38 : decode cX12_numberRead 38 = .ok (.iconst 1, 1) := by decide +kernel
theorem dX12_numberRead_39 : decode cX12_numberRead 39 = .ok (.goto 4, 3) := by decide +kernel
theorem dX12_numberRead_42 : decode cX12_numberRead 42 = .ok (.iconst 0, 1) := by decide +kernel
theorem dX12_numberRead_43 : decode cX12_numberRead 43 = .ok (.ireturn, 1) := by decide +kernel
theorem dX12_placeRead_0 : decode cX12_placeRead 0 = .ok (.aload_n 0, 1) := by decide +kernel
theorem dX12_placeRead_1 : decode cX12_placeRead 1 = .ok (.iconst (-1), 1) := by decide +kernel
theorem dX12_placeRead_2 : decode cX12_placeRead 2 = .ok (.putfield 263, 3) := by decide +kernel
theorem dX12_placeRead_5 : decode cX12_placeRead 5 = .ok (.aload_n 0, 1) := by decide +kernel
theorem dX12_placeRead_6 : decode cX12_placeRead 6 = .ok (.iconst 0, 1) := by decide +kernel
theorem dX12_placeRead_7 : decode cX12_placeRead 7 = .ok (.putfield 266, 3) := by decide +kernel
theorem dX12_placeRead_10 : decode cX12_placeRead 10 = .ok (.aload_n 0, 1) := by decide +kernel
theorem dX12_placeRead_11 : decode cX12_placeRead 11 = .ok (.getfield 236, 3) := by decide +kernel
theorem dX12_placeRead_14 : decode cX12_placeRead 14 = .ok (.iconst 2, 1) := by decide +kernel
theorem dX12_placeRead_15 : decode cX12_placeRead 15 = .ok (.if_icmp .ne 99, 3) := by decide +kernel
theorem dX12_placeRead_18 : decode cX12_placeRead 18 = .ok (.aload_n 0, 1) := by decide +kernel
theorem dX12_placeRead_19 : decode cX12_placeRead 19 = .ok (.aload_n 0, 1) := by decide +kernel
theorem dX12_placeRead_20 : decode cX12_placeRead 20 = .ok (.getfield 245, 3) := by decide +kernel
theorem dX12_placeRead_23 : decode cX12_placeRead 23 = .ok (.invokevirtual 269, 3) := by decide +kernel
theorem dX12_placeRead_26 : decode cX12_placeRead 26 = .ok (.ifCond .ne 9, 3) := by decide +kernel
theorem dX12_placeRead_29 : decode cX12_placeRead 29 = .ok (.aload_n 0, 1) := by decide +kernel
theorem dX12_placeRead_30 : decode cX12_placeRead 30 = .ok (.iconst 3, 1) := by decide +kernel
theorem dX12_placeRead_31 : decode cX12_placeRead 31 = .ok (.invokevirtual 254, 3) := by decide +kernel
theorem dX12_placeRead_34 : decode cX12_placeRead 34 = .ok (.ireturn, 1) := by decide +kernel
theorem dX12_placeRead_35 : decode cX12_placeRead 35 = .ok (.aload_n 0, 1) := by decide +kernel
theorem dX12_placeRead_36 : decode cX12_placeRead 36 = .ok (.aload_n 0, 1) := by decide +kernel
theorem dX12_placeRead_37 : decode cX12_placeRead 37 = .ok (.getfield 245, 3) := by decide +kernel
theorem dX12_placeRead_40 : decode cX12_placeRead 40 = .ok (.putfield 263, 3) := by decide +kernel
theorem dX12_placeRead_43 : decode cX12_placeRead 43 = .ok (.aload_n 0, 1) := by decide +kernel
theorem dX12_placeRead_44 : decode cX12_placeRead 44 = .ok (.invokevirtual 257, 3) := by decide +kernel
theorem dX12_placeRead_47 : decode cX12_placeRead 47 = .ok (.aload_n 0, 1) := by decide +kernel
theorem dX12_placeRead_48 : decode cX12_placeRead 48 = .ok (.bipush 43, 2) := by decide +kernel
theorem dX12_placeRead_50 : decode cX12_placeRead 50 = .ok (.invokevirtual 251, 3) := by decide +kernel
theorem dX12_placeRead_53 : decode cX12_placeRead 53 = .ok (.ifCond .ne 14, 3) := by decide +kernel
theorem dX12_placeRead_56 : decode cX12_placeRead 56 = .ok (.aload_n 0, 1) := by decide +kernel
theorem dX12_placeRead_57 : decode cX12_placeRead 57 = .ok (.bipush 45, 2) := by decide +kernel
theorem dX12_placeRead_59 : decode cX12_placeRead 59 = .ok (.invokevirtual 251, 3) := by decide +kernel
theorem dX12_placeRead_62 : decode cX12_placeRead 62 = .ok (.ifCond .ne 5, 3) := by decide +kernel
theorem dX12_placeRead_65 : decode cX12_placeRead 65 = .ok (.iconst 1, 1) := by decide +kernel
theorem dX12_placeRead_66 : decode cX12_placeRead 66 = .ok (.ireturn, 1) := by decide +kernel
theorem dX12_placeRead_67 : decode cX12_placeRead 67 = .ok (.aload_n 0, 1) := by decide +kernel
theorem dX12_placeRead_68 : decode cX12_placeRead 68 = .ok (.bipush 45, 2) := by decide +kernel
theorem dX12_placeRead_70 : decode cX12_placeRead 70 = .ok (.invokevirtual 251, 3) := by decide +kernel
theorem dX12_placeRead_73 : decode cX12_placeRead 73 = .ok (.istore_n 1, 1) := by decide +kernel
theorem dX12_placeRead_74 : decode cX12_placeRead 74 = .ok (.aload_n 0, 1) := by decide +kernel
theorem dX12_placeRead_75 : decode cX12_placeRead 75 = .ok (.invokevirtual 257, 3) := by decide +kernel
theorem dX12_placeRead_78 : decode cX12_placeRead 78 = .ok (.aload_n 0, 1) := by decide +kernel
theorem dX12_placeRead_79 : decode cX12_placeRead 79 = .ok (.iconst 0, 1) := by decide +kernel
theorem dX12_placeRead_80 : decode cX12_placeRead 80 = .ok (.sipush 999, 3) := by decide +kernel
theorem dX12_placeRead_83 : decode cX12_placeRead 83 = .ok (.invokevirtual 272, 3) := by decide +kernel
theorem dX12_placeRead_86 : decode cX12_placeRead 86 = .ok (.ifCond .ne 5, 3) := by decide +kernel
theorem dX12_placeRead_89 : decode cX12_placeRead 89 = .ok (.iconst 0, 1) := by decide +kernel
theorem dX12_placeRead_90 : decode cX12_placeRead 90 = .ok (.ireturn, 1) := by decide +kernel
theorem dX12_placeRead_91 : decode cX12_placeRead 91 = .ok (.aload_n 0, 1) := by decide +kernel
theorem dX12_placeRead_92 : decode cX12_placeRead 92 = .ok (.iload_n 1, 1) := by decide +kernel
theorem dX12_placeRead_93 : decode cX12_placeRead 93 = .ok (.ifCond .eq 11, 3) := by decide +kernel
theorem dX12_placeRead_96 : decode cX12_placeRead 96 = .ok (.aload_n 0, 1) := by decide +kernel
theorem dX12_placeRead_97 : decode cX12_placeRead 97 = .ok (.getfield 245, 3) := by decide +kernel
theorem dX12_placeRead_100 : decode cX12_placeRead 100 = .ok (.ineg, 1) := by decide +kernel
theorem dX12_placeRead_101 : decode cX12_placeRead 101 = .ok (.goto 7, 3) := by decide +kernel
theorem dX12_placeRead_104 : decode cX12_placeRead 104 = .ok (.aload_n 0, 1) := by decide +kernel
theorem dX12_placeRead_105 : decode cX12_placeRead 105 = .ok (.getfield 245, 3) := by decide +kernel
theorem dX12_placeRead_108 : decode cX12_placeRead 108 = .ok (.putfield 266, 3) := by decide +kernel
theorem dX12_placeRead_111 : decode cX12_placeRead 111 = .ok (.goto 24, 3) := by decide +kernel
theorem dX12_placeRead_114 : decode cX12_placeRead 114 = .ok (.aload_n 0, 1) := by decide +kernel
theorem dX12_placeRead_115 : decode cX12_placeRead 115 = .ok (.iconst 0, 1) := by decide +kernel
theorem dX12_placeRead_116 : decode cX12_placeRead 116 = .ok (.sipush 999, 3) := by decide +kernel
theorem dX12_placeRead_119 : decode cX12_placeRead 119 = .ok (.invokevirtual 272, 3) := by decide +kernel
theorem dX12_placeRead_122 : decode cX12_placeRead 122 = .ok (.ifCond .ne 5, 3) := by decide +kernel
theorem dX12_placeRead_125 : decode cX12_placeRead 125 = .ok (.iconst 0, 1) := by decide +kernel
theorem dX12_placeRead_126 : decode cX12_placeRead 126 = .ok (.ireturn, 1) := by decide +kernel
theorem dX12_placeRead_127 : decode cX12_placeRead 127 = .ok (.aload_n 0, 1) := by decide +kernel
theorem dX12_placeRead_128 : decode cX12_placeRead 128 = .ok (.aload_n 0, 1) := by decide +kernel
theorem dX12_placeRead_129 : decode cX12_placeRead 129 = .ok (.getfield 245, 3) := by decide +kernel
theorem dX12_placeRead_132 : decode cX12_placeRead 132 = .ok (.putfield 266, 3) := by decide +kernel
theorem dX12_placeRead_135 : decode cX12_placeRead 135 = .ok (.aload_n 0, 1) := by decide +kernel
theorem dX12_placeRead_136 : decode cX12_placeRead 136 = .ok (.invokevirtual 257, 3) := by decide +kernel
theorem dX12_placeRead_139 : decode cX12_placeRead 139 = .ok (.iconst 1, 1) := by decide +kernel
theorem dX12_placeRead_140 : decode cX12_placeRead 140 = .ok (.ireturn, 1) := by decide +kernel
theorem dX12_turnRead_0 : decode cX12_turnRead 0 = .ok (.aload_n 0, 1) := by decide +kernel
theorem dX12_turnRead_1 : decode cX12_turnRead 1 = .ok (.getfield 62, 3) := by decide +kernel
theorem dX12_turnRead_4 : decode cX12_turnRead 4 = .ok (.iload_n 1, 1) := by decide +kernel
theorem dX12_turnRead_5 : decode cX12_turnRead 5 = .ok (.iconst 1, 1) := by decide +kernel
theorem dX12_turnRead_6 : decode cX12_turnRead 6 = .ok (.iastore, 1) := by decide +kernel
theorem dX12_turnRead_7 : decode cX12_turnRead 7 = .ok (.iload_n 2, 1) := by decide +kernel
theorem dX12_turnRead_8 : decode cX12_turnRead 8 = .ok (.iconst 2, 1) := by decide +kernel
theorem dX12_turnRead_9 : decode cX12_turnRead 9 = .ok (.if_icmp .eq 29, 3) := by decide +kernel
theorem dX12_turnRead_12 : decode cX12_turnRead 12 = .ok (.aload_n 0, 1) := by decide +kernel
theorem dX12_turnRead_13 : decode cX12_turnRead 13 = .ok (.iconst 1, 1) := by decide +kernel
theorem dX12_turnRead_14 : decode cX12_turnRead 14 = .ok (.bipush 9, 2) := by decide +kernel
theorem dX12_turnRead_16 : decode cX12_turnRead 16 = .ok (.invokevirtual 272, 3) := by decide +kernel
theorem dX12_turnRead_19 : decode cX12_turnRead 19 = .ok (.ifCond .ne 5, 3) := by decide +kernel
theorem dX12_turnRead_22 : decode cX12_turnRead 22 = .ok (.iconst 0, 1) := by decide +kernel
theorem dX12_turnRead_23 : decode cX12_turnRead 23 = .ok (.ireturn, 1) := by decide +kernel
theorem dX12_turnRead_24 : decode cX12_turnRead 24 = .ok (.aload_n 0, 1) := by decide +kernel
theorem dX12_turnRead_25 : decode cX12_turnRead 25 = .ok (.getfield 62, 3) := by decide +kernel
theorem dX12_turnRead_28 : decode cX12_turnRead 28 = .ok (.iload_n 1, 1) := by decide +kernel
theorem dX12_turnRead_29 : decode cX12_turnRead 29 = .ok (.aload_n 0, 1) := by decide +kernel
theorem dX12_turnRead_30 : decode cX12_turnRead 30 = .ok (.getfield 245, 3) := by decide +kernel
theorem dX12_turnRead_33 : decode cX12_turnRead 33 = .ok (.iastore, 1) := by decide +kernel
theorem dX12_turnRead_34 : decode cX12_turnRead 34 = .ok (.aload_n 0, 1) := by decide +kernel
theorem dX12_turnRead_35 : decode cX12_turnRead 35 = .ok (.invokevirtual 257, 3) := by decide +kernel
theorem dX12_turnRead_38 : decode cX12_turnRead 38 = .ok (.aload_n 0, 1) := by decide +kernel
theorem dX12_turnRead_39 : decode cX12_turnRead 39 = .ok (.invokevirtual 275, 3) := by decide +kernel
theorem dX12_turnRead_42 : decode cX12_turnRead 42 = .ok (.ifCond .ne 5, 3) := by decide +kernel
theorem dX12_turnRead_45 : decode cX12_turnRead 45 = .ok (.iconst 0, 1) := by decide +kernel
theorem dX12_turnRead_46 : decode cX12_turnRead 46 = .ok (.ireturn, 1) := by decide +kernel
theorem dX12_turnRead_47 : decode cX12_turnRead 47 = .ok (.aload_n 0, 1) := by decide +kernel
theorem dX12_turnRead_48 : decode cX12_turnRead 48 = .ok (.getfield 68, 3) := by decide +kernel
theorem dX12_turnRead_51 : decode cX12_turnRead 51 = .ok (.iload_n 1, 1) := by decide +kernel
theorem dX12_turnRead_52 : decode cX12_turnRead 52 = .ok (.aload_n 0, 1) := by decide +kernel
theorem dX12_turnRead_53 : decode cX12_turnRead 53 = .ok (.getfield 263, 3) := by decide +kernel
theorem dX12_turnRead_56 : decode cX12_turnRead 56 = .ok (.iastore, 1) := by decide +kernel
theorem dX12_turnRead_57 : decode cX12_turnRead 57 = .ok (.aload_n 0, 1) := by decide +kernel
theorem dX12_turnRead_58 : decode cX12_turnRead 58 = .ok (.getfield 71, 3) := by decide +kernel
theorem dX12_turnRead_61 : decode cX12_turnRead 61 = .ok (.iload_n 1, 1) := by decide +kernel
theorem dX12_turnRead_62 : decode cX12_turnRead 62 = .ok (.aload_n 0, 1) := by decide +kernel
theorem dX12_turnRead_63 : decode cX12_turnRead 63 = .ok (.getfield 266, 3) := by decide +kernel
theorem dX12_turnRead_66 : decode cX12_turnRead 66 = .ok (.iastore, 1) := by decide +kernel
theorem dX12_turnRead_67 : decode cX12_turnRead 67 = .ok (.aload_n 0, 1) := by decide +kernel
theorem dX12_turnRead_68 : decode cX12_turnRead 68 = .ok (.bipush 59, 2) := by decide +kernel
theorem dX12_turnRead_70 : decode cX12_turnRead 70 = .ok (.invokevirtual 279, 3) := by decide +kernel
theorem dX12_turnRead_73 : decode cX12_turnRead 73 = .ok (.ireturn, 1) := by decide +kernel
theorem dX12_loopRead_0 : decode cX12_loopRead 0 = .ok (.iload_n 2, 1) := by decide +kernel
theorem dX12_loopRead_1 : decode cX12_loopRead 1 = .ok (.bipush 6, 2) := by decide +kernel
theorem dX12_loopRead_3 : decode cX12_loopRead 3 = .ok (.if_icmp .ne 106, 3) := by decide +kernel
theorem dX12_loopRead_6 : decode cX12_loopRead 6 = .ok (.aload_n 0, 1) := by decide +kernel
theorem dX12_loopRead_7 : decode cX12_loopRead 7 = .ok (.getfield 236, 3) := by decide +kernel
theorem dX12_loopRead_10 : decode cX12_loopRead 10 = .ok (.iconst 2, 1) := by decide +kernel
theorem dX12_loopRead_11 : decode cX12_loopRead 11 = .ok (.if_icmp .eq 9, 3) := by decide +kernel
theorem dX12_loopRead_14 : decode cX12_loopRead 14 = .ok (.aload_n 0, 1) := by decide +kernel
theorem dX12_loopRead_15 : decode cX12_loopRead 15 = .ok (.iconst 1, 1) := by decide +kernel
theorem dX12_loopRead_16 : decode cX12_loopRead 16 = .ok (.invokevirtual 254, 3) := by decide +kernel
theorem dX12_loopRead_19 : decode cX12_loopRead 19 = .ok (.ireturn, 1) := by decide +kernel
theorem dX12_loopRead_20 : decode cX12_loopRead 20 = .ok (.aload_n 0, 1) := by decide +kernel
theorem dX12_loopRead_21 : decode cX12_loopRead 21 = .ok (.aload_n 0, 1) := by decide +kernel
theorem dX12_loopRead_22 : decode cX12_loopRead 22 = .ok (.getfield 245, 3) := by decide +kernel
theorem dX12_loopRead_25 : decode cX12_loopRead 25 = .ok (.invokevirtual 269, 3) := by decide +kernel
theorem dX12_loopRead_28 : decode cX12_loopRead 28 = .ok (.ifCond .eq 9, 3) := by decide +kernel
theorem dX12_loopRead_31 : decode cX12_loopRead 31 = .ok (.aload_n 0, 1) := by decide +kernel
theorem dX12_loopRead_32 : decode cX12_loopRead 32 = .ok (.iconst 3, 1) := by decide +kernel
theorem dX12_loopRead_33 : decode cX12_loopRead 33 = .ok (.invokevirtual 254, 3) := by decide +kernel
theorem dX12_loopRead_36 : decode cX12_loopRead 36 = .ok (.ireturn, 1) := by decide +kernel
theorem dX12_loopRead_37 : decode cX12_loopRead 37 = .ok (.aload_n 0, 1) := by decide +kernel
theorem dX12_loopRead_38 : decode cX12_loopRead 38 = .ok (.getfield 65, 3) := by decide +kernel
theorem dX12_loopRead_41 : decode cX12_loopRead 41 = .ok (.iload_n 1, 1) := by decide +kernel
theorem dX12_loopRead_42 : decode cX12_loopRead 42 = .ok (.aload_n 0, 1) := by decide +kernel
theorem dX12_loopRead_43 : decode cX12_loopRead 43 = .ok (.getfield 245, 3) := by decide +kernel
theorem dX12_loopRead_46 : decode cX12_loopRead 46 = .ok (.iastore, 1) := by decide +kernel
theorem dX12_loopRead_47 : decode cX12_loopRead 47 = .ok (.aload_n 0, 1) := by decide +kernel
theorem dX12_loopRead_48 : decode cX12_loopRead 48 = .ok (.invokevirtual 257, 3) := by decide +kernel
theorem dX12_loopRead_51 : decode cX12_loopRead 51 = .ok (.aload_n 0, 1) := by decide +kernel
theorem dX12_loopRead_52 : decode cX12_loopRead 52 = .ok (.invokevirtual 275, 3) := by decide +kernel
theorem dX12_loopRead_55 : decode cX12_loopRead 55 = .ok (.ifCond .ne 5, 3) := by decide +kernel
theorem dX12_loopRead_58 : decode cX12_loopRead 58 = .ok (.iconst 0, 1) := by decide +kernel
theorem dX12_loopRead_59 : decode cX12_loopRead 59 = .ok (.ireturn, 1) := by decide +kernel
theorem dX12_loopRead_60 : decode cX12_loopRead 60 = .ok (.aload_n 0, 1) := by decide +kernel
theorem dX12_loopRead_61 : decode cX12_loopRead 61 = .ok (.getfield 68, 3) := by decide +kernel
theorem dX12_loopRead_64 : decode cX12_loopRead 64 = .ok (.iload_n 1, 1) := by decide +kernel
theorem dX12_loopRead_65 : decode cX12_loopRead 65 = .ok (.aload_n 0, 1) := by decide +kernel
theorem dX12_loopRead_66 : decode cX12_loopRead 66 = .ok (.getfield 263, 3) := by decide +kernel
theorem dX12_loopRead_69 : decode cX12_loopRead 69 = .ok (.iastore, 1) := by decide +kernel
theorem dX12_loopRead_70 : decode cX12_loopRead 70 = .ok (.aload_n 0, 1) := by decide +kernel
theorem dX12_loopRead_71 : decode cX12_loopRead 71 = .ok (.getfield 71, 3) := by decide +kernel
theorem dX12_loopRead_74 : decode cX12_loopRead 74 = .ok (.iload_n 1, 1) := by decide +kernel
theorem dX12_loopRead_75 : decode cX12_loopRead 75 = .ok (.aload_n 0, 1) := by decide +kernel
theorem dX12_loopRead_76 : decode cX12_loopRead 76 = .ok (.getfield 266, 3) := by decide +kernel
theorem dX12_loopRead_79 : decode cX12_loopRead 79 = .ok (.iastore, 1) := by decide +kernel
theorem dX12_loopRead_80 : decode cX12_loopRead 80 = .ok (.aload_n 0, 1) := by decide +kernel
theorem dX12_loopRead_81 : decode cX12_loopRead 81 = .ok (.invokevirtual 275, 3) := by decide +kernel
theorem dX12_loopRead_84 : decode cX12_loopRead 84 = .ok (.ifCond .ne 5, 3) := by decide +kernel
theorem dX12_loopRead_87 : decode cX12_loopRead 87 = .ok (.iconst 0, 1) := by decide +kernel
theorem dX12_loopRead_88 : decode cX12_loopRead 88 = .ok (.ireturn, 1) := by decide +kernel
theorem dX12_loopRead_89 : decode cX12_loopRead 89 = .ok (.aload_n 0, 1) := by decide +kernel
theorem dX12_loopRead_90 : decode cX12_loopRead 90 = .ok (.getfield 74, 3) := by decide +kernel
theorem dX12_loopRead_93 : decode cX12_loopRead 93 = .ok (.iload_n 1, 1) := by decide +kernel
theorem dX12_loopRead_94 : decode cX12_loopRead 94 = .ok (.aload_n 0, 1) := by decide +kernel
theorem dX12_loopRead_95 : decode cX12_loopRead 95 = .ok (.getfield 263, 3) := by decide +kernel
theorem dX12_loopRead_98 : decode cX12_loopRead 98 = .ok (.iastore, 1) := by decide +kernel
theorem dX12_loopRead_99 : decode cX12_loopRead 99 = .ok (.aload_n 0, 1) := by decide +kernel
theorem dX12_loopRead_100 : decode cX12_loopRead 100 = .ok (.getfield 77, 3) := by decide +kernel
theorem dX12_loopRead_103 : decode cX12_loopRead 103 = .ok (.iload_n 1, 1) := by decide +kernel
theorem dX12_loopRead_104 : decode cX12_loopRead 104 = .ok (.aload_n 0, 1) := by decide +kernel
theorem dX12_loopRead_105 : decode cX12_loopRead 105 = .ok (.getfield 266, 3) := by decide +kernel
theorem dX12_loopRead_108 : decode cX12_loopRead 108 = .ok (.iastore, 1) := by decide +kernel
theorem dX12_loopRead_109 : decode cX12_loopRead 109 = .ok (.aload_n 0, 1) := by decide +kernel
theorem dX12_loopRead_110 : decode cX12_loopRead 110 = .ok (.iload_n 2, 1) := by decide +kernel
theorem dX12_loopRead_111 : decode cX12_loopRead 111 = .ok (.bipush 6, 2) := by decide +kernel
theorem dX12_loopRead_113 : decode cX12_loopRead 113 = .ok (.if_icmp .ne 7, 3) := by decide +kernel
theorem dX12_loopRead_116 : decode cX12_loopRead 116 = .ok (.iconst 1, 1) := by decide +kernel
theorem dX12_loopRead_117 : decode cX12_loopRead 117 = .ok (.goto 4, 3) := by decide +kernel
theorem dX12_loopRead_120 : decode cX12_loopRead 120 = .ok (.iconst 0, 1) := by decide +kernel
theorem dX12_loopRead_121 : decode cX12_loopRead 121 = .ok (.bipush 99, 2) := by decide +kernel
theorem dX12_loopRead_123 : decode cX12_loopRead 123 = .ok (.invokevirtual 272, 3) := by decide +kernel
theorem dX12_loopRead_126 : decode cX12_loopRead 126 = .ok (.ifCond .ne 5, 3) := by decide +kernel
theorem dX12_loopRead_129 : decode cX12_loopRead 129 = .ok (.iconst 0, 1) := by decide +kernel
theorem dX12_loopRead_130 : decode cX12_loopRead 130 = .ok (.ireturn, 1) := by decide +kernel
theorem dX12_loopRead_131 : decode cX12_loopRead 131 = .ok (.aload_n 0, 1) := by decide +kernel
theorem dX12_loopRead_132 : decode cX12_loopRead 132 = .ok (.getfield 62, 3) := by decide +kernel
theorem dX12_loopRead_135 : decode cX12_loopRead 135 = .ok (.iload_n 1, 1) := by decide +kernel
theorem dX12_loopRead_136 : decode cX12_loopRead 136 = .ok (.aload_n 0, 1) := by decide +kernel
theorem dX12_loopRead_137 : decode cX12_loopRead 137 = .ok (.getfield 245, 3) := by decide +kernel
theorem dX12_loopRead_140 : decode cX12_loopRead 140 = .ok (.iastore, 1) := by decide +kernel
theorem dX12_loopRead_141 : decode cX12_loopRead 141 = .ok (.aload_n 0, 1) := by decide +kernel
theorem dX12_loopRead_142 : decode cX12_loopRead 142 = .ok (.invokevirtual 257, 3) := by decide +kernel
theorem dX12_loopRead_145 : decode cX12_loopRead 145 = .ok (.aload_n 0, 1) := by decide +kernel
theorem dX12_loopRead_146 : decode cX12_loopRead 146 = .ok (.bipush 40, 2) := by decide +kernel
theorem dX12_loopRead_148 : decode cX12_loopRead 148 = .ok (.invokevirtual 251, 3) := by decide +kernel
theorem dX12_loopRead_151 : decode cX12_loopRead 151 = .ok (.ifCond .ne 9, 3) := by decide +kernel
theorem dX12_loopRead_154 : decode cX12_loopRead 154 = .ok (.aload_n 0, 1) := by decide +kernel
theorem dX12_loopRead_155 : decode cX12_loopRead 155 = .ok (.iconst 1, 1) := by decide +kernel
theorem dX12_loopRead_156 : decode cX12_loopRead 156 = .ok (.invokevirtual 254, 3) := by decide +kernel
theorem dX12_loopRead_159 : decode cX12_loopRead 159 = .ok (.ireturn, 1) := by decide +kernel
theorem dX12_loopRead_160 : decode cX12_loopRead 160 = .ok (.aload_n 0, 1) := by decide +kernel
theorem dX12_loopRead_161 : decode cX12_loopRead 161 = .ok (.getfield 260, 3) := by decide +kernel
theorem dX12_loopRead_164 : decode cX12_loopRead 164 = .ok (.iconst 5, 1) := by decide +kernel
theorem dX12_loopRead_165 : decode cX12_loopRead 165 = .ok (.if_icmp .ne 9, 3) := by decide +kernel
theorem dX12_loopRead_168 : decode cX12_loopRead 168 = .ok (.aload_n 0, 1) := by decide +kernel
theorem dX12_loopRead_169 : decode cX12_loopRead 169 = .ok (.iconst 2, 1) := by decide +kernel
theorem dX12_loopRead_170 : decode cX12_loopRead 170 = .ok (.invokevirtual 254, 3) := by decide +kernel
theorem dX12_loopRead_173 : decode cX12_loopRead 173 = .ok (.ireturn, 1) := by decide +kernel
theorem dX12_loopRead_174 : decode cX12_loopRead 174 = .ok (.aload_n 0, 1) := by decide +kernel
theorem dX12_loopRead_175 : decode cX12_loopRead 175 = .ok (.getfield 83, 3) := by decide +kernel
theorem dX12_loopRead_178 : decode cX12_loopRead 178 = .ok (.aload_n 0, 1) := by decide +kernel
theorem dX12_loopRead_179 : decode cX12_loopRead 179 = .ok (.getfield 260, 3) := by decide +kernel
theorem dX12_loopRead_182 : decode cX12_loopRead 182 = .ok (.iload_n 1, 1) := by decide +kernel
theorem dX12_loopRead_183 : decode cX12_loopRead 183 = .ok (.iastore, 1) := by decide +kernel
theorem dX12_loopRead_184 : decode cX12_loopRead 184 = .ok (.aload_n 0, 1) := by decide +kernel
theorem dX12_loopRead_185 : decode cX12_loopRead 185 = .ok (.dup, 1) := by decide +kernel
theorem dX12_loopRead_186 : decode cX12_loopRead 186 = .ok (.getfield 260, 3) := by decide +kernel
theorem dX12_loopRead_189 : decode cX12_loopRead 189 = .ok (.iconst 1, 1) := by decide +kernel
theorem dX12_loopRead_190 : decode cX12_loopRead 190 = .ok (.iadd, 1) := by decide +kernel
theorem dX12_loopRead_191 : decode cX12_loopRead 191 = .ok (.putfield 260, 3) := by decide +kernel
theorem dX12_loopRead_194 : decode cX12_loopRead 194 = .ok (.aload_n 0, 1) := by decide +kernel
theorem dX12_loopRead_195 : decode cX12_loopRead 195 = .ok (.invokevirtual 257, 3) := by decide +kernel
theorem dX12_loopRead_198 : decode cX12_loopRead 198 = .ok (.iconst 1, 1) := by decide +kernel
theorem dX12_loopRead_199 : decode cX12_loopRead 199 = .ok (.ireturn, 1) := by decide +kernel
theorem dX12_actRead_0 : decode cX12_actRead 0 = .ok (.aload_n 0, 1) := by decide +kernel
theorem dX12_actRead_1 : decode cX12_actRead 1 = .ok (.bipush 41, 2) := by decide +kernel
theorem dX12_actRead_3 : decode cX12_actRead 3 = .ok (.invokevirtual 251, 3) := by decide +kernel
theorem dX12_actRead_6 : decode cX12_actRead 6 = .ok (.ifCond .eq 44, 3) := by decide +kernel
theorem dX12_actRead_9 : decode cX12_actRead 9 = .ok (.aload_n 0, 1) := by decide +kernel
theorem dX12_actRead_10 : decode cX12_actRead 10 = .ok (.getfield 260, 3) := by decide +kernel
theorem dX12_actRead_13 : decode cX12_actRead 13 = .ok (.ifCond .le 37, 3) := by decide +kernel
theorem dX12_actRead_16 : decode cX12_actRead 16 = .ok (.aload_n 0, 1) := by decide +kernel
theorem dX12_actRead_17 : decode cX12_actRead 17 = .ok (.dup, 1) := by decide +kernel
theorem dX12_actRead_18 : decode cX12_actRead 18 = .ok (.getfield 260, 3) := by decide +kernel
theorem dX12_actRead_21 : decode cX12_actRead 21 = .ok (.iconst 1, 1) := by decide +kernel
theorem dX12_actRead_22 : decode cX12_actRead 22 = .ok (.isub, 1) := by decide +kernel
theorem dX12_actRead_23 : decode cX12_actRead 23 = .ok (.putfield 260, 3) := by decide +kernel
theorem dX12_actRead_26 : decode cX12_actRead 26 = .ok (.aload_n 0, 1) := by decide +kernel
theorem dX12_actRead_27 : decode cX12_actRead 27 = .ok (.getfield 80, 3) := by decide +kernel
theorem dX12_actRead_30 : decode cX12_actRead 30 = .ok (.aload_n 0, 1) := by decide +kernel
theorem dX12_actRead_31 : decode cX12_actRead 31 = .ok (.getfield 83, 3) := by decide +kernel
theorem dX12_actRead_34 : decode cX12_actRead 34 = .ok (.aload_n 0, 1) := by decide +kernel
theorem dX12_actRead_35 : decode cX12_actRead 35 = .ok (.getfield 260, 3) := by decide +kernel
theorem dX12_actRead_38 : decode cX12_actRead 38 = .ok (.iaload, 1) := by decide +kernel
theorem dX12_actRead_39 : decode cX12_actRead 39 = .ok (.aload_n 0, 1) := by decide +kernel
theorem dX12_actRead_40 : decode cX12_actRead 40 = .ok (.getfield 282, 3) := by decide +kernel
theorem dX12_actRead_43 : decode cX12_actRead 43 = .ok (.iastore, 1) := by decide +kernel
theorem dX12_actRead_44 : decode cX12_actRead 44 = .ok (.aload_n 0, 1) := by decide +kernel
theorem dX12_actRead_45 : decode cX12_actRead 45 = .ok (.invokevirtual 257, 3) := by decide +kernel
theorem dX12_actRead_48 : decode cX12_actRead 48 = .ok (.iconst 1, 1) := by decide +kernel
theorem dX12_actRead_49 : decode cX12_actRead 49 = .ok (.ireturn, 1) := by decide +kernel
theorem dX12_actRead_50 : decode cX12_actRead 50 = .ok (.aload_n 0, 1) := by decide +kernel
theorem dX12_actRead_51 : decode cX12_actRead 51 = .ok (.getfield 236, 3) := by decide +kernel
theorem dX12_actRead_54 : decode cX12_actRead 54 = .ok (.iconst 1, 1) := by decide +kernel
theorem dX12_actRead_55 : decode cX12_actRead 55 = .ok (.if_icmp .eq 9, 3) := by decide +kernel
theorem dX12_actRead_58 : decode cX12_actRead 58 = .ok (.aload_n 0, 1) := by decide +kernel
theorem dX12_actRead_59 : decode cX12_actRead 59 = .ok (.iconst 1, 1) := by decide +kernel
theorem dX12_actRead_60 : decode cX12_actRead 60 = .ok (.invokevirtual 254, 3) := by decide +kernel
theorem dX12_actRead_63 : decode cX12_actRead 63 = .ok (.ireturn, 1) := by decide +kernel
theorem dX12_actRead_64 : decode cX12_actRead 64 = .ok (.aload_n 0, 1) := by decide +kernel
theorem dX12_actRead_65 : decode cX12_actRead 65 = .ok (.getfield 282, 3) := by decide +kernel
theorem dX12_actRead_68 : decode cX12_actRead 68 = .ok (.bipush 60, 2) := by decide +kernel
theorem dX12_actRead_70 : decode cX12_actRead 70 = .ok (.if_icmp .ne 9, 3) := by decide +kernel
theorem dX12_actRead_73 : decode cX12_actRead 73 = .ok (.aload_n 0, 1) := by decide +kernel
theorem dX12_actRead_74 : decode cX12_actRead 74 = .ok (.iconst 2, 1) := by decide +kernel
theorem dX12_actRead_75 : decode cX12_actRead 75 = .ok (.invokevirtual 254, 3) := by decide +kernel
theorem dX12_actRead_78 : decode cX12_actRead 78 = .ok (.ireturn, 1) := by decide +kernel
theorem dX12_actRead_79 : decode cX12_actRead 79 = .ok (.aload_n 0, 1) := by decide +kernel
theorem dX12_actRead_80 : decode cX12_actRead 80 = .ok (.getfield 245, 3) := by decide +kernel
theorem dX12_actRead_83 : decode cX12_actRead 83 = .ok (.istore_n 1, 1) := by decide +kernel
theorem dX12_actRead_84 : decode cX12_actRead 84 = .ok (.aload_n 0, 1) := by decide +kernel
theorem dX12_actRead_85 : decode cX12_actRead 85 = .ok (.getfield 282, 3) := by decide +kernel
theorem dX12_actRead_88 : decode cX12_actRead 88 = .ok (.istore_n 2, 1) := by decide +kernel
theorem dX12_actRead_89 : decode cX12_actRead 89 = .ok (.aload_n 0, 1) := by decide +kernel
theorem dX12_actRead_90 : decode cX12_actRead 90 = .ok (.getfield 59, 3) := by decide +kernel
theorem dX12_actRead_93 : decode cX12_actRead 93 = .ok (.iload_n 2, 1) := by decide +kernel
theorem dX12_actRead_94 : decode cX12_actRead 94 = .ok (.iload_n 1, 1) := by decide +kernel
theorem dX12_actRead_95 : decode cX12_actRead 95 = .ok (.iastore, 1) := by decide +kernel
theorem dX12_actRead_96 : decode cX12_actRead 96 = .ok (.aload_n 0, 1) := by decide +kernel
theorem dX12_actRead_97 : decode cX12_actRead 97 = .ok (.getfield 65, 3) := by decide +kernel
theorem dX12_actRead_100 : decode cX12_actRead 100 = .ok (.iload_n 2, 1) := by decide +kernel
theorem dX12_actRead_101 : decode cX12_actRead 101 = .ok (.iconst (-1), 1) := by decide +kernel
theorem dX12_actRead_102 : decode cX12_actRead 102 = .ok (.iastore, 1) := by decide +kernel
theorem dX12_actRead_103 : decode cX12_actRead 103 = .ok (.aload_n 0, 1) := by decide +kernel
theorem dX12_actRead_104 : decode cX12_actRead 104 = .ok (.dup, 1) := by decide +kernel
theorem dX12_actRead_105 : decode cX12_actRead 105 = .ok (.getfield 282, 3) := by decide +kernel
theorem dX12_actRead_108 : decode cX12_actRead 108 = .ok (.iconst 1, 1) := by decide +kernel
theorem dX12_actRead_109 : decode cX12_actRead 109 = .ok (.iadd, 1) := by decide +kernel
theorem dX12_actRead_110 : decode cX12_actRead 110 = .ok (.putfield 282, 3) := by decide +kernel
theorem dX12_actRead_113 : decode cX12_actRead 113 = .ok (.aload_n 0, 1) := by decide +kernel
theorem dX12_actRead_114 : decode cX12_actRead 114 = .ok (.invokevirtual 257, 3) := by decide +kernel
theorem dX12_actRead_117 : decode cX12_actRead 117 = .ok (.iload_n 1, 1) := by decide +kernel
theorem dX12_actRead_118 : decode cX12_actRead 118 = .ok (.iconst 2, 1) := by decide +kernel
theorem dX12_actRead_119 : decode cX12_actRead 119 = .ok (.if_icmp .gt 10, 3) := by decide +kernel
theorem dX12_actRead_122 : decode cX12_actRead 122 = .ok (.aload_n 0, 1) := by decide +kernel
theorem dX12_actRead_123 : decode cX12_actRead 123 = .ok (.iload_n 2, 1) := by decide +kernel
theorem dX12_actRead_124 : decode cX12_actRead 124 = .ok (.iload_n 1, 1) := by decide +kernel
theorem dX12_actRead_125 : decode cX12_actRead 125 = .ok (.invokevirtual 285, 3) := by decide +kernel
theorem dX12_actRead_128 : decode cX12_actRead 128 = .ok (.ireturn, 1) := by decide +kernel
theorem dX12_actRead_129 : decode cX12_actRead 129 = .ok (.iload_n 1, 1) := by decide +kernel
theorem dX12_actRead_130 : decode cX12_actRead 130 = .ok (.iconst 5, 1) := by decide +kernel
theorem dX12_actRead_131 : decode cX12_actRead 131 = .ok (.if_icmp .ge 12, 3) := by decide +kernel
theorem dX12_actRead_134 : decode cX12_actRead 134 = .ok (.aload_n 0, 1) := by decide +kernel
theorem dX12_actRead_135 : decode cX12_actRead 135 = .ok (.bipush 59, 2) := by decide +kernel
theorem dX12_actRead_137 : decode cX12_actRead 137 = .ok (.invokevirtual 279, 3) := by decide +kernel
theorem dX12_actRead_140 : decode cX12_actRead 140 = .ok (.goto 9, 3) := by decide +kernel
theorem dX12_actRead_143 : decode cX12_actRead 143 = .ok (.aload_n 0, 1) := by decide +kernel
theorem dX12_actRead_144 : decode cX12_actRead 144 = .ok (.iload_n 2, 1) := by decide +kernel
theorem dX12_actRead_145 : decode cX12_actRead 145 = .ok (.iload_n 1, 1) := by decide +kernel
theorem dX12_actRead_146 : decode cX12_actRead 146 = .ok (.invokevirtual 288, 3) := by decide +kernel
theorem dX12_actRead_149 : decode cX12_actRead 149 = .ok (.ireturn, 1) := by decide +kernel
theorem dX12_textRead_0 : decode cX12_textRead 0 = .ok (.aload_n 0, 1) := by decide +kernel
theorem dX12_textRead_1 : decode cX12_textRead 1 = .ok (.iconst 0, 1) := by decide +kernel
theorem dX12_textRead_2 : decode cX12_textRead 2 = .ok (.putfield 282, 3) := by decide +kernel
theorem dX12_textRead_5 : decode cX12_textRead 5 = .ok (.aload_n 0, 1) := by decide +kernel
theorem dX12_textRead_6 : decode cX12_textRead 6 = .ok (.iconst 0, 1) := by decide +kernel
theorem dX12_textRead_7 : decode cX12_textRead 7 = .ok (.putfield 260, 3) := by decide +kernel
theorem dX12_textRead_10 : decode cX12_textRead 10 = .ok (.aload_n 0, 1) := by decide +kernel
theorem dX12_textRead_11 : decode cX12_textRead 11 = .ok (.iconst 0, 1) := by decide +kernel
theorem dX12_textRead_12 : decode cX12_textRead 12 = .ok (.putfield 233, 3) := by decide +kernel
theorem dX12_textRead_15 : decode cX12_textRead 15 = .ok (.aload_n 0, 1) := by decide +kernel
theorem dX12_textRead_16 : decode cX12_textRead 16 = .ok (.invokevirtual 257, 3) := by decide +kernel
theorem dX12_textRead_19 : decode cX12_textRead 19 = .ok (.aload_n 0, 1) := by decide +kernel
theorem dX12_textRead_20 : decode cX12_textRead 20 = .ok (.getfield 236, 3) := by decide +kernel
theorem dX12_textRead_23 : decode cX12_textRead 23 = .ok (.ifCond .ne 10, 3) := by decide +kernel
theorem dX12_textRead_26 : decode cX12_textRead 26 = .ok (.aload_n 0, 1) := by decide +kernel
theorem dX12_textRead_27 : decode cX12_textRead 27 = .ok (.getfield 260, 3) := by decide +kernel
theorem dX12_textRead_30 : decode cX12_textRead 30 = .ok (.ifCond .le 12, 3) := by decide +kernel
theorem dX12_textRead_33 : decode cX12_textRead 33 = .ok (.aload_n 0, 1) := by decide +kernel
theorem dX12_textRead_34 : decode cX12_textRead 34 = .ok (.invokevirtual 291, 3) := by decide +kernel
theorem dX12_textRead_37 : decode cX12_textRead 37 = .ok (.ifCond .ne (-18), 3) := by decide +kernel
theorem dX12_textRead_40 : decode cX12_textRead 40 = .ok (.iconst 0, 1) := by decide +kernel
theorem dX12_textRead_41 : decode cX12_textRead 41 = .ok (.ireturn, 1) := by decide +kernel
theorem dX12_textRead_42 : decode cX12_textRead 42 = .ok (.iconst 1, 1) := by decide +kernel
theorem dX12_textRead_43 : decode cX12_textRead 43 = .ok (.ireturn, 1) := by decide +kernel
theorem dX12_placeOf_0 : decode cX12_placeOf 0 = .ok (.aload_n 0, 1) := by decide +kernel
theorem dX12_placeOf_1 : decode cX12_placeOf 1 = .ok (.iload_n 1, 1) := by decide +kernel
theorem dX12_placeOf_2 : decode cX12_placeOf 2 = .ok (.iconst (-1), 1) := by decide +kernel
theorem dX12_placeOf_3 : decode cX12_placeOf 3 = .ok (.if_icmp .ne 7, 3) := by decide +kernel
theorem dX12_placeOf_6 : decode cX12_placeOf 6 = .ok (.iload_n 2, 1) := by decide +kernel
theorem dX12_placeOf_7 : decode cX12_placeOf 7 = .ok (.goto 11, 3) := by decide +kernel
theorem dX12_placeOf_10 : decode cX12_placeOf 10 = .ok (.aload_n 0, 1) := by decide +kernel
theorem dX12_placeOf_11 : decode cX12_placeOf 11 = .ok (.getfield 86, 3) := by decide +kernel
theorem dX12_placeOf_14 : decode cX12_placeOf 14 = .ok (.iload_n 1, 1) := by decide +kernel
theorem dX12_placeOf_15 : decode cX12_placeOf 15 = .ok (.iaload, 1) := by decide +kernel
theorem dX12_placeOf_16 : decode cX12_placeOf 16 = .ok (.iload_n 2, 1) := by decide +kernel
theorem dX12_placeOf_17 : decode cX12_placeOf 17 = .ok (.iadd, 1) := by decide +kernel
theorem dX12_placeOf_18 : decode cX12_placeOf 18 = .ok (.invokevirtual 144, 3) := by decide +kernel
theorem dX12_placeOf_21 : decode cX12_placeOf 21 = .ok (.ireturn, 1) := by decide +kernel
theorem dX12_stepsOf_0 : decode cX12_stepsOf 0 = .ok (.aload_n 0, 1) := by decide +kernel
theorem dX12_stepsOf_1 : decode cX12_stepsOf 1 = .ok (.getfield 59, 3) := by decide +kernel
theorem dX12_stepsOf_4 : decode cX12_stepsOf 4 = .ok (.iload_n 1, 1) := by decide +kernel
theorem dX12_stepsOf_5 : decode cX12_stepsOf 5 = .ok (.iaload, 1) := by decide +kernel
theorem dX12_stepsOf_6 : decode cX12_stepsOf 6 = .ok (.iconst 2, 1) := by decide +kernel
theorem dX12_stepsOf_7 : decode cX12_stepsOf 7 = .ok (.if_icmp .le 5, 3) := by decide +kernel
theorem dX12_stepsOf_10 : decode cX12_stepsOf 10 = .ok (.iconst 0, 1) := by decide +kernel
theorem dX12_stepsOf_11 : decode cX12_stepsOf 11 = .ok (.ireturn, 1) := by decide +kernel
theorem dX12_stepsOf_12 : decode cX12_stepsOf 12 = .ok (.aload_n 0, 1) := by decide +kernel
theorem dX12_stepsOf_13 : decode cX12_stepsOf 13 = .ok (.aload_n 0, 1) := by decide +kernel
theorem dX12_stepsOf_14 : decode cX12_stepsOf 14 = .ok (.getfield 68, 3) := by decide +kernel
theorem dX12_stepsOf_17 : decode cX12_stepsOf 17 = .ok (.iload_n 1, 1) := by decide +kernel
theorem dX12_stepsOf_18 : decode cX12_stepsOf 18 = .ok (.iaload, 1) := by decide +kernel
theorem dX12_stepsOf_19 : decode cX12_stepsOf 19 = .ok (.aload_n 0, 1) := by decide +kernel
theorem dX12_stepsOf_20 : decode cX12_stepsOf 20 = .ok (.getfield 71, 3) := by decide +kernel
theorem dX12_stepsOf_23 : decode cX12_stepsOf 23 = .ok (.iload_n 1, 1) := by decide +kernel
theorem dX12_stepsOf_24 : decode cX12_stepsOf 24 = .ok (.iaload, 1) := by decide +kernel
theorem dX12_stepsOf_25 : decode cX12_stepsOf 25 = .ok (.invokevirtual 294, 3) := by decide +kernel
theorem dX12_stepsOf_28 : decode cX12_stepsOf 28 = .ok (.istore_n 2, 1) := by decide +kernel
theorem dX12_stepsOf_29 : decode cX12_stepsOf 29 = .ok (.aload_n 0, 1) := by decide +kernel
theorem dX12_stepsOf_30 : decode cX12_stepsOf 30 = .ok (.iload_n 1, 1) := by decide +kernel
theorem dX12_stepsOf_31 : decode cX12_stepsOf 31 = .ok (.invokevirtual 297, 3) := by decide +kernel
theorem dX12_stepsOf_34 : decode cX12_stepsOf 34 = .ok (.ifCond .eq 16, 3) := by decide +kernel
theorem dX12_stepsOf_37 : decode cX12_stepsOf 37 = .ok (.aload_n 0, 1) := by decide +kernel
theorem dX12_stepsOf_38 : decode cX12_stepsOf 38 = .ok (.iload_n 2, 1) := by decide +kernel
theorem dX12_stepsOf_39 : decode cX12_stepsOf 39 = .ok (.aload_n 0, 1) := by decide +kernel
theorem dX12_stepsOf_40 : decode cX12_stepsOf 40 = .ok (.getfield 148, 3) := by decide +kernel
theorem dX12_stepsOf_43 : decode cX12_stepsOf 43 = .ok (.isub, 1) := by decide +kernel
theorem dX12_stepsOf_44 : decode cX12_stepsOf 44 = .ok (.invokevirtual 144, 3) := by decide +kernel
theorem dX12_stepsOf_47 : decode cX12_stepsOf 47 = .ok (.goto 13, 3) := by decide +kernel
theorem dX12_stepsOf_50 : decode cX12_stepsOf 50 = .ok (.aload_n 0, 1) := by decide +kernel
theorem dX12_stepsOf_51 : decode cX12_stepsOf 51 = .ok (.aload_n 0, 1) := by decide +kernel
theorem dX12_stepsOf_52 : decode cX12_stepsOf 52 = .ok (.getfield 148, 3) := by decide +kernel
theorem dX12_stepsOf_55 : decode cX12_stepsOf 55 = .ok (.iload_n 2, 1) := by decide +kernel
theorem dX12_stepsOf_56 : decode cX12_stepsOf 56 = .ok (.isub, 1) := by decide +kernel
theorem dX12_stepsOf_57 : decode cX12_stepsOf 57 = .ok (.invokevirtual 144, 3) := by decide +kernel
theorem dX12_stepsOf_60 : decode cX12_stepsOf 60 = .ok (.istore_n 3, 1) := by decide +kernel
theorem dX12_stepsOf_61 : decode cX12_stepsOf 61 = .ok (.aload_n 0, 1) := by decide +kernel
theorem dX12_stepsOf_62 : decode cX12_stepsOf 62 = .ok (.getfield 59, 3) := by decide +kernel
theorem dX12_stepsOf_65 : decode cX12_stepsOf 65 = .ok (.iload_n 1, 1) := by decide +kernel
theorem dX12_stepsOf_66 : decode cX12_stepsOf 66 = .ok (.iaload, 1) := by decide +kernel
theorem dX12_stepsOf_67 : decode cX12_stepsOf 67 = .ok (.iconst 2, 1) := by decide +kernel
theorem dX12_stepsOf_68 : decode cX12_stepsOf 68 = .ok (.if_icmp .ne 5, 3) := by decide +kernel
theorem dX12_stepsOf_71 : decode cX12_stepsOf 71 = .ok (.iload_n 3, 1) := by decide +kernel
theorem dX12_stepsOf_72 : decode cX12_stepsOf 72 = .ok (.ireturn, 1) := by decide +kernel
theorem dX12_stepsOf_73 : decode cX12_stepsOf 73 = .ok (.iload_n 3, 1) := by decide +kernel
theorem dX12_stepsOf_74 : decode cX12_stepsOf 74 = .ok (.ifCond .ne 10, 3) := by decide +kernel
theorem dX12_stepsOf_77 : decode cX12_stepsOf 77 = .ok (.aload_n 0, 1) := by decide +kernel
theorem dX12_stepsOf_78 : decode cX12_stepsOf 78 = .ok (.getfield 13, 3) := by decide +kernel
theorem dX12_stepsOf_81 : decode cX12_stepsOf 81 = .ok (.goto 4, 3) := by decide +kernel
theorem dX12_stepsOf_84 : decode cX12_stepsOf 84 = .ok (.iload_n 3, 1) := by decide +kernel
theorem dX12_stepsOf_85 : decode cX12_stepsOf 85 = .ok (.aload_n 0, 1) := by decide +kernel
theorem dX12_stepsOf_86 : decode cX12_stepsOf 86 = .ok (.getfield 62, 3) := by decide +kernel
theorem dX12_stepsOf_89 : decode cX12_stepsOf 89 = .ok (.iload_n 1, 1) := by decide +kernel
theorem dX12_stepsOf_90 : decode cX12_stepsOf 90 = .ok (.iaload, 1) := by decide +kernel
theorem dX12_stepsOf_91 : decode cX12_stepsOf 91 = .ok (.iconst 1, 1) := by decide +kernel
theorem dX12_stepsOf_92 : decode cX12_stepsOf 92 = .ok (.isub, 1) := by decide +kernel
theorem dX12_stepsOf_93 : decode cX12_stepsOf 93 = .ok (.aload_n 0, 1) := by decide +kernel
theorem dX12_stepsOf_94 : decode cX12_stepsOf 94 = .ok (.getfield 13, 3) := by decide +kernel
theorem dX12_stepsOf_97 : decode cX12_stepsOf 97 = .ok (.imul, 1) := by decide +kernel
theorem dX12_stepsOf_98 : decode cX12_stepsOf 98 = .ok (.iadd, 1) := by decide +kernel
theorem dX12_stepsOf_99 : decode cX12_stepsOf 99 = .ok (.ireturn, 1) := by decide +kernel
theorem dX12_isLeft_0 : decode cX12_isLeft 0 = .ok (.aload_n 0, 1) := by decide +kernel
theorem dX12_isLeft_1 : decode cX12_isLeft 1 = .ok (.getfield 59, 3) := by decide +kernel
theorem dX12_isLeft_4 : decode cX12_isLeft 4 = .ok (.iload_n 1, 1) := by decide +kernel
theorem dX12_isLeft_5 : decode cX12_isLeft 5 = .ok (.iaload, 1) := by decide +kernel
theorem dX12_isLeft_6 : decode cX12_isLeft 6 = .ok (.ifCond .eq 21, 3) := by decide +kernel
theorem dX12_isLeft_9 : decode cX12_isLeft 9 = .ok (.aload_n 0, 1) := by decide +kernel
theorem dX12_isLeft_10 : decode cX12_isLeft 10 = .ok (.getfield 59, 3) := by decide +kernel
theorem dX12_isLeft_13 : decode cX12_isLeft 13 = .ok (.iload_n 1, 1) := by decide +kernel
theorem dX12_isLeft_14 : decode cX12_isLeft 14 = .ok (.iaload, 1) := by decide +kernel
theorem dX12_isLeft_15 : decode cX12_isLeft 15 = .ok (.iconst 2, 1) := by decide +kernel
theorem dX12_isLeft_16 : decode cX12_isLeft 16 = .ok (.if_icmp .ne 15, 3) := by decide +kernel
theorem dX12_isLeft_19 : decode cX12_isLeft 19 = .ok (.aload_n 0, 1) := by decide +kernel
theorem dX12_isLeft_20 : decode cX12_isLeft 20 = .ok (.getfield 151, 3) := by decide +kernel
theorem dX12_isLeft_23 : decode cX12_isLeft 23 = .ok (.iconst 1, 1) := by decide +kernel
theorem dX12_isLeft_24 : decode cX12_isLeft 24 = .ok (.if_icmp .eq 7, 3) := by decide +kernel
theorem dX12_isLeft_27 : decode cX12_isLeft 27 = .ok (.iconst 1, 1) := by decide +kernel
theorem dX12_isLeft_28 : decode cX12_isLeft 28 = .ok (.goto 4, 3) := by decide +kernel
theorem dX12_isLeft_31 : decode cX12_isLeft 31 = .ok (.iconst 0, 1) := by decide +kernel
theorem dX12_isLeft_32 : decode cX12_isLeft 32 = .ok (.ireturn, 1) := by decide +kernel
theorem dX12_notes_0 : decode cX12_notes 0 = .ok (.aload_n 0, 1) := by decide +kernel
theorem dX12_notes_1 : decode cX12_notes 1 = .ok (.getfield 202, 3) := by decide +kernel
theorem dX12_notes_4 : decode cX12_notes 4 = .ok (.bipush 100, 2) := by decide +kernel
theorem dX12_notes_6 : decode cX12_notes 6 = .ok (.if_icmp .ne 4, 3) := by decide +kernel
theorem dX12_notes_9 : decode cX12_notes 9 = .ok (.return_, 1) := by decide +kernel
theorem dX12_notes_10 : decode cX12_notes 10 = .ok (.aload_n 0, 1) := by decide +kernel
theorem dX12_notes_11 : decode cX12_notes 11 = .ok (.getfield 47, 3) := by decide +kernel
theorem dX12_notes_14 : decode cX12_notes 14 = .ok (.iconst 5, 1) := by decide +kernel
theorem dX12_notes_15 : decode cX12_notes 15 = .ok (.aload_n 0, 1) := by decide +kernel
theorem dX12_notes_16 : decode cX12_notes 16 = .ok (.getfield 202, 3) := by decide +kernel
theorem dX12_notes_19 : decode cX12_notes 19 = .ok (.imul, 1) := by decide +kernel
theorem dX12_notes_20 : decode cX12_notes 20 = .ok (.aload_n 0, 1) := by decide +kernel
theorem dX12_notes_21 : decode cX12_notes 21 = .ok (.invokevirtual 179, 3) := by decide +kernel
theorem dX12_notes_24 : decode cX12_notes 24 = .ok (.iastore, 1) := by decide +kernel
theorem dX12_notes_25 : decode cX12_notes 25 = .ok (.iconst 0, 1) := by decide +kernel
theorem dX12_notes_26 : decode cX12_notes 26 = .ok (.istore_n 1, 1) := by decide +kernel
theorem dX12_notes_27 : decode cX12_notes 27 = .ok (.iload_n 1, 1) := by decide +kernel
theorem dX12_notes_28 : decode cX12_notes 28 = .ok (.aload_n 0, 1) := by decide +kernel
theorem dX12_notes_29 : decode cX12_notes 29 = .ok (.getfield 141, 3) := by decide +kernel
theorem dX12_notes_32 : decode cX12_notes 32 = .ok (.if_icmp .ge 30, 3) := by decide +kernel
theorem dX12_notes_35 : decode cX12_notes 35 = .ok (.aload_n 0, 1) := by decide +kernel
theorem dX12_notes_36 : decode cX12_notes 36 = .ok (.getfield 47, 3) := by decide +kernel
theorem dX12_notes_39 : decode cX12_notes 39 = .ok (.iconst 5, 1) := by decide +kernel
theorem dX12_notes_40 : decode cX12_notes 40 = .ok (.aload_n 0, 1) := by decide +kernel
theorem dX12_notes_41 : decode cX12_notes 41 = .ok (.getfield 202, 3) := by decide +kernel
theorem dX12_notes_44 : decode cX12_notes 44 = .ok (.imul, 1) := by decide +kernel
theorem dX12_notes_45 : decode cX12_notes 45 = .ok (.iconst 1, 1) := by decide +kernel
theorem dX12_notes_46 : decode cX12_notes 46 = .ok (.iadd, 1) := by decide +kernel
theorem dX12_notes_47 : decode cX12_notes 47 = .ok (.iload_n 1, 1) := by decide +kernel
theorem dX12_notes_48 : decode cX12_notes 48 = .ok (.iadd, 1) := by decide +kernel
theorem dX12_notes_49 : decode cX12_notes 49 = .ok (.aload_n 0, 1) := by decide +kernel
theorem dX12_notes_50 : decode cX12_notes 50 = .ok (.getfield 41, 3) := by decide +kernel
theorem dX12_notes_53 : decode cX12_notes 53 = .ok (.iload_n 1, 1) := by decide +kernel
theorem dX12_notes_54 : decode cX12_notes 54 = .ok (.iaload, 1) := by decide +kernel
theorem dX12_notes_55 : decode cX12_notes 55 = .ok (.iastore, 1) := by decide +kernel
theorem dX12_notes_56 : decode cX12_notes 56 = .ok (.iinc 1 1, 3) := by decide +kernel
theorem dX12_notes_59 : decode cX12_notes 59 = .ok (.goto (-32), 3) := by decide +kernel
theorem dX12_notes_62 : decode cX12_notes 62 = .ok (.aload_n 0, 1) := by decide +kernel
theorem dX12_notes_63 : decode cX12_notes 63 = .ok (.dup, 1) := by decide +kernel
theorem dX12_notes_64 : decode cX12_notes 64 = .ok (.getfield 202, 3) := by decide +kernel
theorem dX12_notes_67 : decode cX12_notes 67 = .ok (.iconst 1, 1) := by decide +kernel
theorem dX12_notes_68 : decode cX12_notes 68 = .ok (.iadd, 1) := by decide +kernel
theorem dX12_notes_69 : decode cX12_notes 69 = .ok (.putfield 202, 3) := by decide +kernel
theorem dX12_notes_72 : decode cX12_notes 72 = .ok (.return_, 1) := by decide +kernel
theorem dX12_timesOf_0 : decode cX12_timesOf 0 = .ok (.aload_n 0, 1) := by decide +kernel
theorem dX12_timesOf_1 : decode cX12_timesOf 1 = .ok (.getfield 59, 3) := by decide +kernel
theorem dX12_timesOf_4 : decode cX12_timesOf 4 = .ok (.iload_n 1, 1) := by decide +kernel
theorem dX12_timesOf_5 : decode cX12_timesOf 5 = .ok (.iaload, 1) := by decide +kernel
theorem dX12_timesOf_6 : decode cX12_timesOf 6 = .ok (.iconst 5, 1) := by decide +kernel
theorem dX12_timesOf_7 : decode cX12_timesOf 7 = .ok (.if_icmp .ne 10, 3) := by decide +kernel
theorem dX12_timesOf_10 : decode cX12_timesOf 10 = .ok (.aload_n 0, 1) := by decide +kernel
theorem dX12_timesOf_11 : decode cX12_timesOf 11 = .ok (.getfield 62, 3) := by decide +kernel
theorem dX12_timesOf_14 : decode cX12_timesOf 14 = .ok (.iload_n 1, 1) := by decide +kernel
theorem dX12_timesOf_15 : decode cX12_timesOf 15 = .ok (.iaload, 1) := by decide +kernel
theorem dX12_timesOf_16 : decode cX12_timesOf 16 = .ok (.ireturn, 1) := by decide +kernel
theorem dX12_timesOf_17 : decode cX12_timesOf 17 = .ok (.aload_n 0, 1) := by decide +kernel
theorem dX12_timesOf_18 : decode cX12_timesOf 18 = .ok (.getfield 86, 3) := by decide +kernel
theorem dX12_timesOf_21 : decode cX12_timesOf 21 = .ok (.aload_n 0, 1) := by decide +kernel
theorem dX12_timesOf_22 : decode cX12_timesOf 22 = .ok (.getfield 65, 3) := by decide +kernel
theorem dX12_timesOf_25 : decode cX12_timesOf 25 = .ok (.iload_n 1, 1) := by decide +kernel
theorem dX12_timesOf_26 : decode cX12_timesOf 26 = .ok (.iaload, 1) := by decide +kernel
theorem dX12_timesOf_27 : decode cX12_timesOf 27 = .ok (.aload_n 0, 1) := by decide +kernel
theorem dX12_timesOf_28 : decode cX12_timesOf 28 = .ok (.aload_n 0, 1) := by decide +kernel
theorem dX12_timesOf_29 : decode cX12_timesOf 29 = .ok (.getfield 68, 3) := by decide +kernel
theorem dX12_timesOf_32 : decode cX12_timesOf 32 = .ok (.iload_n 1, 1) := by decide +kernel
theorem dX12_timesOf_33 : decode cX12_timesOf 33 = .ok (.iaload, 1) := by decide +kernel
theorem dX12_timesOf_34 : decode cX12_timesOf 34 = .ok (.aload_n 0, 1) := by decide +kernel
theorem dX12_timesOf_35 : decode cX12_timesOf 35 = .ok (.getfield 71, 3) := by decide +kernel
theorem dX12_timesOf_38 : decode cX12_timesOf 38 = .ok (.iload_n 1, 1) := by decide +kernel
theorem dX12_timesOf_39 : decode cX12_timesOf 39 = .ok (.iaload, 1) := by decide +kernel
theorem dX12_timesOf_40 : decode cX12_timesOf 40 = .ok (.invokevirtual 294, 3) := by decide +kernel
theorem dX12_timesOf_43 : decode cX12_timesOf 43 = .ok (.iastore, 1) := by decide +kernel
theorem dX12_timesOf_44 : decode cX12_timesOf 44 = .ok (.aload_n 0, 1) := by decide +kernel
theorem dX12_timesOf_45 : decode cX12_timesOf 45 = .ok (.aload_n 0, 1) := by decide +kernel
theorem dX12_timesOf_46 : decode cX12_timesOf 46 = .ok (.aload_n 0, 1) := by decide +kernel
theorem dX12_timesOf_47 : decode cX12_timesOf 47 = .ok (.getfield 74, 3) := by decide +kernel
theorem dX12_timesOf_50 : decode cX12_timesOf 50 = .ok (.iload_n 1, 1) := by decide +kernel
theorem dX12_timesOf_51 : decode cX12_timesOf 51 = .ok (.iaload, 1) := by decide +kernel
theorem dX12_timesOf_52 : decode cX12_timesOf 52 = .ok (.aload_n 0, 1) := by decide +kernel
theorem dX12_timesOf_53 : decode cX12_timesOf 53 = .ok (.getfield 77, 3) := by decide +kernel
theorem dX12_timesOf_56 : decode cX12_timesOf 56 = .ok (.iload_n 1, 1) := by decide +kernel
theorem dX12_timesOf_57 : decode cX12_timesOf 57 = .ok (.iaload, 1) := by decide +kernel
theorem dX12_timesOf_58 : decode cX12_timesOf 58 = .ok (.invokevirtual 294, 3) := by decide +kernel
theorem dX12_timesOf_61 : decode cX12_timesOf 61 = .ok (.aload_n 0, 1) := by decide +kernel
theorem dX12_timesOf_62 : decode cX12_timesOf 62 = .ok (.getfield 86, 3) := by decide +kernel
theorem dX12_timesOf_65 : decode cX12_timesOf 65 = .ok (.aload_n 0, 1) := by decide +kernel
theorem dX12_timesOf_66 : decode cX12_timesOf 66 = .ok (.getfield 65, 3) := by decide +kernel
theorem dX12_timesOf_69 : decode cX12_timesOf 69 = .ok (.iload_n 1, 1) := by decide +kernel
theorem dX12_timesOf_70 : decode cX12_timesOf 70 = .ok (.iaload, 1) := by decide +kernel
theorem dX12_timesOf_71 : decode cX12_timesOf 71 = .ok (.iaload, 1) := by decide +kernel
theorem dX12_timesOf_72 : decode cX12_timesOf 72 = .ok (.isub, 1) := by decide +kernel
theorem dX12_timesOf_73 : decode cX12_timesOf 73 = .ok (.invokevirtual 144, 3) := by decide +kernel
theorem dX12_timesOf_76 : decode cX12_timesOf 76 = .ok (.aload_n 0, 1) := by decide +kernel
theorem dX12_timesOf_77 : decode cX12_timesOf 77 = .ok (.getfield 62, 3) := by decide +kernel
theorem dX12_timesOf_80 : decode cX12_timesOf 80 = .ok (.iload_n 1, 1) := by decide +kernel
theorem dX12_timesOf_81 : decode cX12_timesOf 81 = .ok (.iaload, 1) := by decide +kernel
theorem dX12_timesOf_82 : decode cX12_timesOf 82 = .ok (.idiv, 1) := by decide +kernel
theorem dX12_timesOf_83 : decode cX12_timesOf 83 = .ok (.iconst 1, 1) := by decide +kernel
theorem dX12_timesOf_84 : decode cX12_timesOf 84 = .ok (.iadd, 1) := by decide +kernel
theorem dX12_timesOf_85 : decode cX12_timesOf 85 = .ok (.ireturn, 1) := by decide +kernel
theorem dX12_does_0 : decode cX12_does 0 = .ok (.iconst 0, 1) := by decide +kernel
theorem dX12_does_1 : decode cX12_does 1 = .ok (.istore_n 1, 1) := by decide +kernel
theorem dX12_does_2 : decode cX12_does 2 = .ok (.aload_n 0, 1) := by decide +kernel
theorem dX12_does_3 : decode cX12_does 3 = .ok (.iconst 0, 1) := by decide +kernel
theorem dX12_does_4 : decode cX12_does 4 = .ok (.putfield 300, 3) := by decide +kernel
theorem dX12_does_7 : decode cX12_does 7 = .ok (.aload_n 0, 1) := by decide +kernel
theorem dX12_does_8 : decode cX12_does 8 = .ok (.getfield 300, 3) := by decide +kernel
theorem dX12_does_11 : decode cX12_does 11 = .ok (.ifCond .le 128, 3) := by decide +kernel
theorem dX12_does_14 : decode cX12_does 14 = .ok (.iload_n 1, 1) := by decide +kernel
theorem dX12_does_15 : decode cX12_does 15 = .ok (.aload_n 0, 1) := by decide +kernel
theorem dX12_does_16 : decode cX12_does 16 = .ok (.getfield 80, 3) := by decide +kernel
theorem dX12_does_19 : decode cX12_does 19 = .ok (.aload_n 0, 1) := by decide +kernel
theorem dX12_does_20 : decode cX12_does 20 = .ok (.getfield 89, 3) := by decide +kernel
theorem dX12_does_23 : decode cX12_does 23 = .ok (.aload_n 0, 1) := by decide +kernel
theorem dX12_does_24 : decode cX12_does 24 = .ok (.getfield 300, 3) := by decide +kernel
theorem dX12_does_27 : decode cX12_does 27 = .ok (.iconst 1, 1) := by decide +kernel
theorem dX12_does_28 : decode cX12_does 28 = .ok (.isub, 1) := by decide +kernel
theorem dX12_does_29 : decode cX12_does 29 = .ok (.iaload, 1) := by decide +kernel
theorem dX12_does_30 : decode cX12_does 30 = .ok (.iaload, 1) := by decide +kernel
theorem dX12_does_31 : decode cX12_does 31 = .ok (.if_icmp .ne 108, 3) := by decide +kernel
theorem dX12_does_34 : decode cX12_does 34 = .ok (.aload_n 0, 1) := by decide +kernel
theorem dX12_does_35 : decode cX12_does 35 = .ok (.getfield 89, 3) := by decide +kernel
theorem dX12_does_38 : decode cX12_does 38 = .ok (.aload_n 0, 1) := by decide +kernel
theorem dX12_does_39 : decode cX12_does 39 = .ok (.getfield 300, 3) := by decide +kernel
theorem dX12_does_42 : decode cX12_does 42 = .ok (.iconst 1, 1) := by decide +kernel
theorem dX12_does_43 : decode cX12_does 43 = .ok (.isub, 1) := by decide +kernel
theorem dX12_does_44 : decode cX12_does 44 = .ok (.iaload, 1) := by decide +kernel
theorem dX12_does_45 : decode cX12_does 45 = .ok (.istore_n 2, 1) := by decide +kernel
theorem dX12_does_46 : decode cX12_does 46 = .ok (.aload_n 0, 1) := by decide +kernel
theorem dX12_does_47 : decode cX12_does 47 = .ok (.getfield 92, 3) := by decide +kernel
theorem dX12_does_50 : decode cX12_does 50 = .ok (.aload_n 0, 1) := by decide +kernel
theorem dX12_does_51 : decode cX12_does 51 = .ok (.getfield 300, 3) := by decide +kernel
theorem dX12_does_54 : decode cX12_does 54 = .ok (.iconst 1, 1) := by decide +kernel
theorem dX12_does_55 : decode cX12_does 55 = .ok (.isub, 1) := by decide +kernel
theorem dX12_does_56 : decode cX12_does 56 = .ok (.dup2, 1) := by decide +kernel
theorem dX12_does_57 : decode cX12_does 57 = .ok (.iaload, 1) := by decide +kernel
theorem dX12_does_58 : decode cX12_does 58 = .ok (.iconst 1, 1) := by decide +kernel
theorem dX12_does_59 : decode cX12_does 59 = .ok (.isub, 1) := by decide +kernel
theorem dX12_does_60 : decode cX12_does 60 = .ok (.iastore, 1) := by decide +kernel
theorem dX12_does_61 : decode cX12_does 61 = .ok (.aload_n 0, 1) := by decide +kernel
theorem dX12_does_62 : decode cX12_does 62 = .ok (.getfield 92, 3) := by decide +kernel
theorem dX12_does_65 : decode cX12_does 65 = .ok (.aload_n 0, 1) := by decide +kernel
theorem dX12_does_66 : decode cX12_does 66 = .ok (.getfield 300, 3) := by decide +kernel
theorem dX12_does_69 : decode cX12_does 69 = .ok (.iconst 1, 1) := by decide +kernel
theorem dX12_does_70 : decode cX12_does 70 = .ok (.isub, 1) := by decide +kernel
theorem dX12_does_71 : decode cX12_does 71 = .ok (.iaload, 1) := by decide +kernel
theorem dX12_does_72 : decode cX12_does 72 = .ok (.ifCond .le 54, 3) := by decide +kernel
theorem dX12_does_75 : decode cX12_does 75 = .ok (.aload_n 0, 1) := by decide +kernel
theorem dX12_does_76 : decode cX12_does 76 = .ok (.getfield 59, 3) := by decide +kernel
theorem dX12_does_79 : decode cX12_does 79 = .ok (.iload_n 2, 1) := by decide +kernel
theorem dX12_does_80 : decode cX12_does 80 = .ok (.iaload, 1) := by decide +kernel
theorem dX12_does_81 : decode cX12_does 81 = .ok (.bipush 6, 2) := by decide +kernel
theorem dX12_does_83 : decode cX12_does 83 = .ok (.if_icmp .ne 36, 3) := by decide +kernel
theorem dX12_does_86 : decode cX12_does 86 = .ok (.aload_n 0, 1) := by decide +kernel
theorem dX12_does_87 : decode cX12_does 87 = .ok (.getfield 86, 3) := by decide +kernel
theorem dX12_does_90 : decode cX12_does 90 = .ok (.aload_n 0, 1) := by decide +kernel
theorem dX12_does_91 : decode cX12_does 91 = .ok (.getfield 65, 3) := by decide +kernel
theorem dX12_does_94 : decode cX12_does 94 = .ok (.iload_n 2, 1) := by decide +kernel
theorem dX12_does_95 : decode cX12_does 95 = .ok (.iaload, 1) := by decide +kernel
theorem dX12_does_96 : decode cX12_does 96 = .ok (.aload_n 0, 1) := by decide +kernel
theorem dX12_does_97 : decode cX12_does 97 = .ok (.aload_n 0, 1) := by decide +kernel
theorem dX12_does_98 : decode cX12_does 98 = .ok (.getfield 86, 3) := by decide +kernel
theorem dX12_does_101 : decode cX12_does 101 = .ok (.aload_n 0, 1) := by decide +kernel
theorem dX12_does_102 : decode cX12_does 102 = .ok (.getfield 65, 3) := by decide +kernel
theorem dX12_does_105 : decode cX12_does 105 = .ok (.iload_n 2, 1) := by decide +kernel
theorem dX12_does_106 : decode cX12_does 106 = .ok (.iaload, 1) := by decide +kernel
theorem dX12_does_107 : decode cX12_does 107 = .ok (.iaload, 1) := by decide +kernel
theorem dX12_does_108 : decode cX12_does 108 = .ok (.aload_n 0, 1) := by decide +kernel
theorem dX12_does_109 : decode cX12_does 109 = .ok (.getfield 62, 3) := by decide +kernel
theorem dX12_does_112 : decode cX12_does 112 = .ok (.iload_n 2, 1) := by decide +kernel
theorem dX12_does_113 : decode cX12_does 113 = .ok (.iaload, 1) := by decide +kernel
theorem dX12_does_114 : decode cX12_does 114 = .ok (.iadd, 1) := by decide +kernel
theorem dX12_does_115 : decode cX12_does 115 = .ok (.invokevirtual 144, 3) := by decide +kernel
theorem dX12_does_118 : decode cX12_does 118 = .ok (.iastore, 1) := by decide +kernel
theorem dX12_does_119 : decode cX12_does 119 = .ok (.iload_n 2, 1) := by decide +kernel
theorem dX12_does_120 : decode cX12_does 120 = .ok (.iconst 1, 1) := by decide +kernel
theorem dX12_does_121 : decode cX12_does 121 = .ok (.iadd, 1) := by decide +kernel
theorem dX12_does_122 : decode cX12_does 122 = .ok (.istore_n 1, 1) := by decide +kernel
theorem dX12_does_123 : decode cX12_does 123 = .ok (.goto (-116), 3) := by decide +kernel
theorem dX12_does_126 : decode cX12_does 126 = .ok (.aload_n 0, 1) := by decide +kernel
theorem dX12_does_127 : decode cX12_does 127 = .ok (.dup, 1) := by decide +kernel
theorem dX12_does_128 : decode cX12_does 128 = .ok (.getfield 300, 3) := by decide +kernel
theorem dX12_does_131 : decode cX12_does 131 = .ok (.iconst 1, 1) := by decide +kernel
theorem dX12_does_132 : decode cX12_does 132 = .ok (.isub, 1) := by decide +kernel
theorem dX12_does_133 : decode cX12_does 133 = .ok (.putfield 300, 3) := by decide +kernel
theorem dX12_does_136 : decode cX12_does 136 = .ok (.goto (-129), 3) := by decide +kernel
theorem dX12_does_139 : decode cX12_does 139 = .ok (.iload_n 1, 1) := by decide +kernel
theorem dX12_does_140 : decode cX12_does 140 = .ok (.aload_n 0, 1) := by decide +kernel
theorem dX12_does_141 : decode cX12_does 141 = .ok (.getfield 282, 3) := by decide +kernel
theorem dX12_does_144 : decode cX12_does 144 = .ok (.if_icmp .ne 5, 3) := by decide +kernel
theorem dX12_does_147 : decode cX12_does 147 = .ok (.iconst 0, 1) := by decide +kernel
theorem dX12_does_148 : decode cX12_does 148 = .ok (.ireturn, 1) := by decide +kernel
theorem dX12_does_149 : decode cX12_does 149 = .ok (.aload_n 0, 1) := by decide +kernel
theorem dX12_does_150 : decode cX12_does 150 = .ok (.iload_n 1, 1) := by decide +kernel
theorem dX12_does_151 : decode cX12_does 151 = .ok (.invokevirtual 303, 3) := by decide +kernel
theorem dX12_does_154 : decode cX12_does 154 = .ok (.istore_n 2, 1) := by decide +kernel
theorem dX12_does_155 : decode cX12_does 155 = .ok (.aload_n 0, 1) := by decide +kernel
theorem dX12_does_156 : decode cX12_does 156 = .ok (.getfield 306, 3) := by decide +kernel
theorem dX12_does_159 : decode cX12_does 159 = .ok (.sipush 5000, 3) := by decide +kernel
theorem dX12_does_162 : decode cX12_does 162 = .ok (.if_icmp .eq 14, 3) := by decide +kernel
theorem dX12_does_165 : decode cX12_does 165 = .ok (.aload_n 0, 1) := by decide +kernel
theorem dX12_does_166 : decode cX12_does 166 = .ok (.getfield 309, 3) := by decide +kernel
theorem dX12_does_169 : decode cX12_does 169 = .ok (.iload_n 2, 1) := by decide +kernel
theorem dX12_does_170 : decode cX12_does 170 = .ok (.iadd, 1) := by decide +kernel
theorem dX12_does_171 : decode cX12_does 171 = .ok (.ldc 212, 2) := by decide +kernel
theorem dX12_does_173 : decode cX12_does 173 = .ok (.if_icmp .le 5, 3) := by decide +kernel
theorem dX12_does_176 : decode cX12_does 176 = .ok (.iconst 1, 1) := by decide +kernel
theorem dX12_does_177 : decode cX12_does 177 = .ok (.ireturn, 1) := by decide +kernel
theorem dX12_does_178 : decode cX12_does 178 = .ok (.aload_n 0, 1) := by decide +kernel
theorem dX12_does_179 : decode cX12_does 179 = .ok (.dup, 1) := by decide +kernel
theorem dX12_does_180 : decode cX12_does 180 = .ok (.getfield 306, 3) := by decide +kernel
theorem dX12_does_183 : decode cX12_does 183 = .ok (.iconst 1, 1) := by decide +kernel
theorem dX12_does_184 : decode cX12_does 184 = .ok (.iadd, 1) := by decide +kernel
theorem dX12_does_185 : decode cX12_does 185 = .ok (.putfield 306, 3) := by decide +kernel
theorem dX12_does_188 : decode cX12_does 188 = .ok (.aload_n 0, 1) := by decide +kernel
theorem dX12_does_189 : decode cX12_does 189 = .ok (.iload_n 1, 1) := by decide +kernel
theorem dX12_does_190 : decode cX12_does 190 = .ok (.invokevirtual 297, 3) := by decide +kernel
theorem dX12_does_193 : decode cX12_does 193 = .ok (.istore_n 3, 1) := by decide +kernel
theorem dX12_does_194 : decode cX12_does 194 = .ok (.iconst 0, 1) := by decide +kernel
theorem dX12_does_195 : decode cX12_does 195 = .ok (.istore 4, 2) := by decide +kernel
theorem dX12_does_197 : decode cX12_does 197 = .ok (.iload 4, 2) := by decide +kernel
theorem dX12_does_199 : decode cX12_does 199 = .ok (.iload_n 2, 1) := by decide +kernel
theorem dX12_does_200 : decode cX12_does 200 = .ok (.if_icmp .ge 15, 3) := by decide +kernel
theorem dX12_does_203 : decode cX12_does 203 = .ok (.aload_n 0, 1) := by decide +kernel
theorem dX12_does_204 : decode cX12_does 204 = .ok (.iload_n 3, 1) := by decide +kernel
theorem dX12_does_205 : decode cX12_does 205 = .ok (.iconst 0, 1) := by decide +kernel
theorem dX12_does_206 : decode cX12_does 206 = .ok (.invokevirtual 213, 3) := by decide +kernel
theorem dX12_does_209 : decode cX12_does 209 = .ok (.iinc 4 1, 3) := by decide +kernel
theorem dX12_does_212 : decode cX12_does 212 = .ok (.goto (-15), 3) := by decide +kernel
theorem dX12_does_215 : decode cX12_does 215 = .ok (.aload_n 0, 1) := by decide +kernel
theorem dX12_does_216 : decode cX12_does 216 = .ok (.dup, 1) := by decide +kernel
theorem dX12_does_217 : decode cX12_does 217 = .ok (.getfield 309, 3) := by decide +kernel
theorem dX12_does_220 : decode cX12_does 220 = .ok (.iload_n 2, 1) := by decide +kernel
theorem dX12_does_221 : decode cX12_does 221 = .ok (.iadd, 1) := by decide +kernel
theorem dX12_does_222 : decode cX12_does 222 = .ok (.putfield 309, 3) := by decide +kernel
theorem dX12_does_225 : decode cX12_does 225 = .ok (.aload_n 0, 1) := by decide +kernel
theorem dX12_does_226 : decode cX12_does 226 = .ok (.getfield 59, 3) := by decide +kernel
theorem dX12_does_229 : decode cX12_does 229 = .ok (.iload_n 1, 1) := by decide +kernel
theorem dX12_does_230 : decode cX12_does 230 = .ok (.iaload, 1) := by decide +kernel
theorem dX12_does_231 : decode cX12_does 231 = .ok (.iconst 3, 1) := by decide +kernel
theorem dX12_does_232 : decode cX12_does 232 = .ok (.if_icmp .ne 7, 3) := by decide +kernel
theorem dX12_does_235 : decode cX12_does 235 = .ok (.aload_n 0, 1) := by decide +kernel
theorem dX12_does_236 : decode cX12_does 236 = .ok (.invokevirtual 312, 3) := by decide +kernel
theorem dX12_does_239 : decode cX12_does 239 = .ok (.aload_n 0, 1) := by decide +kernel
theorem dX12_does_240 : decode cX12_does 240 = .ok (.getfield 59, 3) := by decide +kernel
theorem dX12_does_243 : decode cX12_does 243 = .ok (.iload_n 1, 1) := by decide +kernel
theorem dX12_does_244 : decode cX12_does 244 = .ok (.iaload, 1) := by decide +kernel
theorem dX12_does_245 : decode cX12_does 245 = .ok (.iconst 4, 1) := by decide +kernel
theorem dX12_does_246 : decode cX12_does 246 = .ok (.if_icmp .ne 29, 3) := by decide +kernel
theorem dX12_does_249 : decode cX12_does 249 = .ok (.aload_n 0, 1) := by decide +kernel
theorem dX12_does_250 : decode cX12_does 250 = .ok (.dup, 1) := by decide +kernel
theorem dX12_does_251 : decode cX12_does 251 = .ok (.getfield 315, 3) := by decide +kernel
theorem dX12_does_254 : decode cX12_does 254 = .ok (.iconst 1, 1) := by decide +kernel
theorem dX12_does_255 : decode cX12_does 255 = .ok (.iadd, 1) := by decide +kernel
theorem dX12_does_256 : decode cX12_does 256 = .ok (.putfield 315, 3) := by decide +kernel
theorem dX12_does_259 : decode cX12_does 259 = .ok (.aload_n 0, 1) := by decide +kernel
theorem dX12_does_260 : decode cX12_does 260 = .ok (.invokevirtual 186, 3) := by decide +kernel
theorem dX12_does_263 : decode cX12_does 263 = .ok (.istore 4, 2) := by decide +kernel
theorem dX12_does_265 : decode cX12_does 265 = .ok (.iload 4, 2) := by decide +kernel
theorem dX12_does_267 : decode cX12_does 267 = .ok (.ifCond .le 8, 3) := by decide +kernel
theorem dX12_does_270 : decode cX12_does 270 = .ok (.iload 4, 2) := by decide +kernel
theorem dX12_does_272 : decode cX12_does 272 = .ok (.iconst 1, 1) := by decide +kernel
theorem dX12_does_273 : decode cX12_does 273 = .ok (.iadd, 1) := by decide +kernel
theorem dX12_does_274 : decode cX12_does 274 = .ok (.ireturn, 1) := by decide +kernel
theorem dX12_does_275 : decode cX12_does 275 = .ok (.aload_n 0, 1) := by decide +kernel
theorem dX12_does_276 : decode cX12_does 276 = .ok (.getfield 59, 3) := by decide +kernel
theorem dX12_does_279 : decode cX12_does 279 = .ok (.iload_n 1, 1) := by decide +kernel
theorem dX12_does_280 : decode cX12_does 280 = .ok (.iaload, 1) := by decide +kernel
theorem dX12_does_281 : decode cX12_does 281 = .ok (.iconst 5, 1) := by decide +kernel
theorem dX12_does_282 : decode cX12_does 282 = .ok (.if_icmp .lt 56, 3) := by decide +kernel
theorem dX12_does_285 : decode cX12_does 285 = .ok (.aload_n 0, 1) := by decide +kernel
theorem dX12_does_286 : decode cX12_does 286 = .ok (.iload_n 1, 1) := by decide +kernel
theorem dX12_does_287 : decode cX12_does 287 = .ok (.invokevirtual 318, 3) := by decide +kernel
theorem dX12_does_290 : decode cX12_does 290 = .ok (.istore 4, 2) := by decide +kernel
theorem dX12_does_292 : decode cX12_does 292 = .ok (.iload 4, 2) := by decide +kernel
theorem dX12_does_294 : decode cX12_does 294 = .ok (.ifCond .ne 13, 3) := by decide +kernel
theorem dX12_does_297 : decode cX12_does 297 = .ok (.aload_n 0, 1) := by decide +kernel
theorem dX12_does_298 : decode cX12_does 298 = .ok (.getfield 80, 3) := by decide +kernel
theorem dX12_does_301 : decode cX12_does 301 = .ok (.iload_n 1, 1) := by decide +kernel
theorem dX12_does_302 : decode cX12_does 302 = .ok (.iaload, 1) := by decide +kernel
theorem dX12_does_303 : decode cX12_does 303 = .ok (.istore_n 1, 1) := by decide +kernel
theorem dX12_does_304 : decode cX12_does 304 = .ok (.goto (-297), 3) := by decide +kernel
theorem dX12_does_307 : decode cX12_does 307 = .ok (.aload_n 0, 1) := by decide +kernel
theorem dX12_does_308 : decode cX12_does 308 = .ok (.getfield 89, 3) := by decide +kernel
theorem dX12_does_311 : decode cX12_does 311 = .ok (.aload_n 0, 1) := by decide +kernel
theorem dX12_does_312 : decode cX12_does 312 = .ok (.getfield 300, 3) := by decide +kernel
theorem dX12_does_315 : decode cX12_does 315 = .ok (.iload_n 1, 1) := by decide +kernel
theorem dX12_does_316 : decode cX12_does 316 = .ok (.iastore, 1) := by decide +kernel
theorem dX12_does_317 : decode cX12_does 317 = .ok (.aload_n 0, 1) := by decide +kernel
theorem dX12_does_318 : decode cX12_does 318 = .ok (.getfield 92, 3) := by decide +kernel
theorem dX12_does_321 : decode cX12_does 321 = .ok (.aload_n 0, 1) := by decide +kernel
theorem dX12_does_322 : decode cX12_does 322 = .ok (.getfield 300, 3) := by decide +kernel
theorem dX12_does_325 : decode cX12_does 325 = .ok (.iload 4, 2) := by decide +kernel
theorem dX12_does_327 : decode cX12_does 327 = .ok (.iastore, 1) := by decide +kernel
theorem dX12_does_328 : decode cX12_does 328 = .ok (.aload_n 0, 1) := by decide +kernel
theorem dX12_does_329 : decode cX12_does 329 = .ok (.dup, 1) := by decide +kernel
theorem dX12_does_330 : decode cX12_does 330 = .ok (.getfield 300, 3) := by decide +kernel
theorem dX12_does_333 : decode cX12_does 333 = .ok (.iconst 1, 1) := by decide +kernel
theorem dX12_does_334 : decode cX12_does 334 = .ok (.iadd, 1) := by decide +kernel
theorem dX12_does_335 : decode cX12_does 335 = .ok (.putfield 300, 3) := by decide +kernel
theorem dX12_does_338 : decode cX12_does 338 = .ok (.iinc 1 1, 3) := by decide +kernel
theorem dX12_does_341 : decode cX12_does 341 = .ok (.goto (-334), 3) := by decide +kernel
theorem dX12_turn_0 : decode cX12_turn 0 = .ok (.aload_n 0, 1) := by decide +kernel
theorem dX12_turn_1 : decode cX12_turn 1 = .ok (.iconst 0, 1) := by decide +kernel
theorem dX12_turn_2 : decode cX12_turn 2 = .ok (.putfield 135, 3) := by decide +kernel
theorem dX12_turn_5 : decode cX12_turn 5 = .ok (.iload_n 1, 1) := by decide +kernel
theorem dX12_turn_6 : decode cX12_turn 6 = .ok (.ifCond .lt 11, 3) := by decide +kernel
theorem dX12_turn_9 : decode cX12_turn 9 = .ok (.iload_n 1, 1) := by decide +kernel
theorem dX12_turn_10 : decode cX12_turn 10 = .ok (.aload_n 0, 1) := by decide +kernel
theorem dX12_turn_11 : decode cX12_turn 11 = .ok (.getfield 138, 3) := by decide +kernel
theorem dX12_turn_14 : decode cX12_turn 14 = .ok (.if_icmp .le 6, 3) := by decide +kernel
theorem dX12_turn_17 : decode cX12_turn 17 = .ok (.bipush (-2), 2) := by decide +kernel
theorem dX12_turn_19 : decode cX12_turn 19 = .ok (.ireturn, 1) := by decide +kernel
theorem dX12_turn_20 : decode cX12_turn 20 = .ok (.aload_n 0, 1) := by decide +kernel
theorem dX12_turn_21 : decode cX12_turn 21 = .ok (.iload_n 1, 1) := by decide +kernel
theorem dX12_turn_22 : decode cX12_turn 22 = .ok (.putfield 230, 3) := by decide +kernel
theorem dX12_turn_25 : decode cX12_turn 25 = .ok (.aload_n 0, 1) := by decide +kernel
theorem dX12_turn_26 : decode cX12_turn 26 = .ok (.iconst 0, 1) := by decide +kernel
theorem dX12_turn_27 : decode cX12_turn 27 = .ok (.putfield 138, 3) := by decide +kernel
theorem dX12_turn_30 : decode cX12_turn 30 = .ok (.aload_n 0, 1) := by decide +kernel
theorem dX12_turn_31 : decode cX12_turn 31 = .ok (.iconst 0, 1) := by decide +kernel
theorem dX12_turn_32 : decode cX12_turn 32 = .ok (.putfield 224, 3) := by decide +kernel
theorem dX12_turn_35 : decode cX12_turn 35 = .ok (.aload_n 0, 1) := by decide +kernel
theorem dX12_turn_36 : decode cX12_turn 36 = .ok (.iconst (-1), 1) := by decide +kernel
theorem dX12_turn_37 : decode cX12_turn 37 = .ok (.putfield 56, 3) := by decide +kernel
theorem dX12_turn_40 : decode cX12_turn 40 = .ok (.aload_n 0, 1) := by decide +kernel
theorem dX12_turn_41 : decode cX12_turn 41 = .ok (.iconst 0, 1) := by decide +kernel
theorem dX12_turn_42 : decode cX12_turn 42 = .ok (.putfield 309, 3) := by decide +kernel
theorem dX12_turn_45 : decode cX12_turn 45 = .ok (.aload_n 0, 1) := by decide +kernel
theorem dX12_turn_46 : decode cX12_turn 46 = .ok (.iconst 0, 1) := by decide +kernel
theorem dX12_turn_47 : decode cX12_turn 47 = .ok (.putfield 306, 3) := by decide +kernel
theorem dX12_turn_50 : decode cX12_turn 50 = .ok (.aload_n 0, 1) := by decide +kernel
theorem dX12_turn_51 : decode cX12_turn 51 = .ok (.iconst 0, 1) := by decide +kernel
theorem dX12_turn_52 : decode cX12_turn 52 = .ok (.putfield 315, 3) := by decide +kernel
theorem dX12_turn_55 : decode cX12_turn 55 = .ok (.aload_n 0, 1) := by decide +kernel
theorem dX12_turn_56 : decode cX12_turn 56 = .ok (.invokevirtual 321, 3) := by decide +kernel
theorem dX12_turn_59 : decode cX12_turn 59 = .ok (.ifCond .eq 10, 3) := by decide +kernel
theorem dX12_turn_62 : decode cX12_turn 62 = .ok (.aload_n 0, 1) := by decide +kernel
theorem dX12_turn_63 : decode cX12_turn 63 = .ok (.invokevirtual 324, 3) := by decide +kernel
theorem dX12_turn_66 : decode cX12_turn 66 = .ok (.goto 4, 3) := by decide +kernel
theorem dX12_turn_69 : decode cX12_turn 69 = .ok (.iconst (-1), 1) := by decide +kernel
theorem dX12_turn_70 : decode cX12_turn 70 = .ok (.ireturn, 1) := by decide +kernel
theorem dX12_turned_0 : decode cX12_turned 0 = .ok (.aload_n 0, 1) := by decide +kernel
theorem dX12_turned_1 : decode cX12_turned 1 = .ok (.iconst 0, 1) := by decide +kernel
theorem dX12_turned_2 : decode cX12_turned 2 = .ok (.putfield 135, 3) := by decide +kernel
theorem dX12_turned_5 : decode cX12_turned 5 = .ok (.iload_n 1, 1) := by decide +kernel
theorem dX12_turned_6 : decode cX12_turned 6 = .ok (.tableswitch 59 0 4 #[34, 39, 44, 49, 54], 34) := by decide +kernel
theorem dX12_turned_40 : decode cX12_turned 40 = .ok (.aload_n 0, 1) := by decide +kernel
theorem dX12_turned_41 : decode cX12_turned 41 = .ok (.getfield 224, 3) := by decide +kernel
theorem dX12_turned_44 : decode cX12_turned 44 = .ok (.ireturn, 1) := by decide +kernel
theorem dX12_turned_45 : decode cX12_turned 45 = .ok (.aload_n 0, 1) := by decide +kernel
theorem dX12_turned_46 : decode cX12_turned 46 = .ok (.getfield 56, 3) := by decide +kernel
theorem dX12_turned_49 : decode cX12_turned 49 = .ok (.ireturn, 1) := by decide +kernel
theorem dX12_turned_50 : decode cX12_turned 50 = .ok (.aload_n 0, 1) := by decide +kernel
theorem dX12_turned_51 : decode cX12_turned 51 = .ok (.getfield 309, 3) := by decide +kernel
theorem dX12_turned_54 : decode cX12_turned 54 = .ok (.ireturn, 1) := by decide +kernel
theorem dX12_turned_55 : decode cX12_turned 55 = .ok (.aload_n 0, 1) := by decide +kernel
theorem dX12_turned_56 : decode cX12_turned 56 = .ok (.getfield 306, 3) := by decide +kernel
theorem dX12_turned_59 : decode cX12_turned 59 = .ok (.ireturn, 1) := by decide +kernel
theorem dX12_turned_60 : decode cX12_turned 60 = .ok (.aload_n 0, 1) := by decide +kernel
theorem dX12_turned_61 : decode cX12_turned 61 = .ok (.getfield 315, 3) := by decide +kernel
theorem dX12_turned_64 : decode cX12_turned 64 = .ok (.ireturn, 1) := by decide +kernel
theorem dX12_turned_65 : decode cX12_turned 65 = .ok (.iconst (-1), 1) := by decide +kernel
theorem dX12_turned_66 : decode cX12_turned 66 = .ok (.ireturn, 1) := by decide +kernel
theorem dX12_feel_0 : decode cX12_feel 0 = .ok (.aload_n 0, 1) := by decide +kernel
theorem dX12_feel_1 : decode cX12_feel 1 = .ok (.iconst 0, 1) := by decide +kernel
theorem dX12_feel_2 : decode cX12_feel 2 = .ok (.putfield 135, 3) := by decide +kernel
theorem dX12_feel_5 : decode cX12_feel 5 = .ok (.iload_n 1, 1) := by decide +kernel
theorem dX12_feel_6 : decode cX12_feel 6 = .ok (.ifCond .lt 36, 3) := by decide +kernel
theorem dX12_feel_9 : decode cX12_feel 9 = .ok (.iload_n 1, 1) := by decide +kernel
theorem dX12_feel_10 : decode cX12_feel 10 = .ok (.aload_n 0, 1) := by decide +kernel
theorem dX12_feel_11 : decode cX12_feel 11 = .ok (.getfield 202, 3) := by decide +kernel
theorem dX12_feel_14 : decode cX12_feel 14 = .ok (.if_icmp .ge 28, 3) := by decide +kernel
theorem dX12_feel_17 : decode cX12_feel 17 = .ok (.iload_n 2, 1) := by decide +kernel
theorem dX12_feel_18 : decode cX12_feel 18 = .ok (.iconst 0, 1) := by decide +kernel
theorem dX12_feel_19 : decode cX12_feel 19 = .ok (.aload_n 0, 1) := by decide +kernel
theorem dX12_feel_20 : decode cX12_feel 20 = .ok (.getfield 141, 3) := by decide +kernel
theorem dX12_feel_23 : decode cX12_feel 23 = .ok (.invokestatic 189, 3) := by decide +kernel
theorem dX12_feel_26 : decode cX12_feel 26 = .ok (.ifCond .eq 16, 3) := by decide +kernel
theorem dX12_feel_29 : decode cX12_feel 29 = .ok (.aload_n 0, 1) := by decide +kernel
theorem dX12_feel_30 : decode cX12_feel 30 = .ok (.getfield 47, 3) := by decide +kernel
theorem dX12_feel_33 : decode cX12_feel 33 = .ok (.iconst 5, 1) := by decide +kernel
theorem dX12_feel_34 : decode cX12_feel 34 = .ok (.iload_n 1, 1) := by decide +kernel
theorem dX12_feel_35 : decode cX12_feel 35 = .ok (.imul, 1) := by decide +kernel
theorem dX12_feel_36 : decode cX12_feel 36 = .ok (.iload_n 2, 1) := by decide +kernel
theorem dX12_feel_37 : decode cX12_feel 37 = .ok (.iadd, 1) := by decide +kernel
theorem dX12_feel_38 : decode cX12_feel 38 = .ok (.iaload, 1) := by decide +kernel
theorem dX12_feel_39 : decode cX12_feel 39 = .ok (.goto 4, 3) := by decide +kernel
theorem dX12_feel_42 : decode cX12_feel 42 = .ok (.iconst (-1), 1) := by decide +kernel
theorem dX12_feel_43 : decode cX12_feel 43 = .ok (.ireturn, 1) := by decide +kernel
theorem dX12_doubt_0 : decode cX12_doubt 0 = .ok (.aload_n 0, 1) := by decide +kernel
theorem dX12_doubt_1 : decode cX12_doubt 1 = .ok (.iconst 0, 1) := by decide +kernel
theorem dX12_doubt_2 : decode cX12_doubt 2 = .ok (.putfield 135, 3) := by decide +kernel
theorem dX12_doubt_5 : decode cX12_doubt 5 = .ok (.iload_n 1, 1) := by decide +kernel
theorem dX12_doubt_6 : decode cX12_doubt 6 = .ok (.iconst 0, 1) := by decide +kernel
theorem dX12_doubt_7 : decode cX12_doubt 7 = .ok (.bipush 99, 2) := by decide +kernel
theorem dX12_doubt_9 : decode cX12_doubt 9 = .ok (.invokestatic 189, 3) := by decide +kernel
theorem dX12_doubt_12 : decode cX12_doubt 12 = .ok (.ifCond .ne 5, 3) := by decide +kernel
theorem dX12_doubt_15 : decode cX12_doubt 15 = .ok (.iconst 0, 1) := by decide +kernel
theorem dX12_doubt_16 : decode cX12_doubt 16 = .ok (.ireturn, 1) := by decide +kernel
theorem dX12_doubt_17 : decode cX12_doubt 17 = .ok (.aload_n 0, 1) := by decide +kernel
theorem dX12_doubt_18 : decode cX12_doubt 18 = .ok (.iload_n 1, 1) := by decide +kernel
theorem dX12_doubt_19 : decode cX12_doubt 19 = .ok (.putfield 327, 3) := by decide +kernel
theorem dX12_doubt_22 : decode cX12_doubt 22 = .ok (.iconst 1, 1) := by decide +kernel
theorem dX12_doubt_23 : decode cX12_doubt 23 = .ok (.ireturn, 1) := by decide +kernel
theorem dX12_mayBe_0 : decode cX12_mayBe 0 = .ok (.iconst 0, 1) := by decide +kernel
theorem dX12_mayBe_1 : decode cX12_mayBe 1 = .ok (.istore_n 3, 1) := by decide +kernel
theorem dX12_mayBe_2 : decode cX12_mayBe 2 = .ok (.iconst 0, 1) := by decide +kernel
theorem dX12_mayBe_3 : decode cX12_mayBe 3 = .ok (.istore 4, 2) := by decide +kernel
theorem dX12_mayBe_5 : decode cX12_mayBe 5 = .ok (.iload 4, 2) := by decide +kernel
theorem dX12_mayBe_7 : decode cX12_mayBe 7 = .ok (.aload_n 0, 1) := by decide +kernel
theorem dX12_mayBe_8 : decode cX12_mayBe 8 = .ok (.getfield 141, 3) := by decide +kernel
theorem dX12_mayBe_11 : decode cX12_mayBe 11 = .ok (.if_icmp .ge 38, 3) := by decide +kernel
theorem dX12_mayBe_14 : decode cX12_mayBe 14 = .ok (.iload 4, 2) := by decide +kernel
theorem dX12_mayBe_16 : decode cX12_mayBe 16 = .ok (.iload_n 1, 1) := by decide +kernel
theorem dX12_mayBe_17 : decode cX12_mayBe 17 = .ok (.if_icmp .eq 24, 3) := by decide +kernel
theorem dX12_mayBe_20 : decode cX12_mayBe 20 = .ok (.aload_n 0, 1) := by decide +kernel
theorem dX12_mayBe_21 : decode cX12_mayBe 21 = .ok (.getfield 29, 3) := by decide +kernel
theorem dX12_mayBe_24 : decode cX12_mayBe 24 = .ok (.iload 4, 2) := by decide +kernel
theorem dX12_mayBe_26 : decode cX12_mayBe 26 = .ok (.iaload, 1) := by decide +kernel
theorem dX12_mayBe_27 : decode cX12_mayBe 27 = .ok (.iload_n 3, 1) := by decide +kernel
theorem dX12_mayBe_28 : decode cX12_mayBe 28 = .ok (.if_icmp .le 13, 3) := by decide +kernel
theorem dX12_mayBe_31 : decode cX12_mayBe 31 = .ok (.aload_n 0, 1) := by decide +kernel
theorem dX12_mayBe_32 : decode cX12_mayBe 32 = .ok (.getfield 29, 3) := by decide +kernel
theorem dX12_mayBe_35 : decode cX12_mayBe 35 = .ok (.iload 4, 2) := by decide +kernel
theorem dX12_mayBe_37 : decode cX12_mayBe 37 = .ok (.iaload, 1) := by decide +kernel
theorem dX12_mayBe_38 : decode cX12_mayBe 38 = .ok (.goto 4, 3) := by decide +kernel
theorem dX12_mayBe_41 : decode cX12_mayBe 41 = .ok (.iload_n 3, 1) := by decide +kernel
theorem dX12_mayBe_42 : decode cX12_mayBe 42 = .ok (.istore_n 3, 1) := by decide +kernel
theorem dX12_mayBe_43 : decode cX12_mayBe 43 = .ok (.iinc 4 1, 3) := by decide +kernel
theorem dX12_mayBe_46 : decode cX12_mayBe 46 = .ok (.goto (-41), 3) := by decide +kernel
theorem dX12_mayBe_49 : decode cX12_mayBe 49 = .ok (.iconst 0, 1) := by decide +kernel
theorem dX12_mayBe_50 : decode cX12_mayBe 50 = .ok (.istore 4, 2) := by decide +kernel
theorem dX12_mayBe_52 : decode cX12_mayBe 52 = .ok (.iload 4, 2) := by decide +kernel
theorem dX12_mayBe_54 : decode cX12_mayBe 54 = .ok (.aload_n 0, 1) := by decide +kernel
theorem dX12_mayBe_55 : decode cX12_mayBe 55 = .ok (.getfield 202, 3) := by decide +kernel
theorem dX12_mayBe_58 : decode cX12_mayBe 58 = .ok (.if_icmp .ge 100, 3) := by decide +kernel
theorem dX12_mayBe_61 : decode cX12_mayBe 61 = .ok (.aload_n 0, 1) := by decide +kernel
theorem dX12_mayBe_62 : decode cX12_mayBe 62 = .ok (.getfield 47, 3) := by decide +kernel
theorem dX12_mayBe_65 : decode cX12_mayBe 65 = .ok (.iconst 5, 1) := by decide +kernel
theorem dX12_mayBe_66 : decode cX12_mayBe 66 = .ok (.iload 4, 2) := by decide +kernel
theorem dX12_mayBe_68 : decode cX12_mayBe 68 = .ok (.imul, 1) := by decide +kernel
theorem dX12_mayBe_69 : decode cX12_mayBe 69 = .ok (.iconst 1, 1) := by decide +kernel
theorem dX12_mayBe_70 : decode cX12_mayBe 70 = .ok (.iadd, 1) := by decide +kernel
theorem dX12_mayBe_71 : decode cX12_mayBe 71 = .ok (.iload_n 1, 1) := by decide +kernel
theorem dX12_mayBe_72 : decode cX12_mayBe 72 = .ok (.iadd, 1) := by decide +kernel
theorem dX12_mayBe_73 : decode cX12_mayBe 73 = .ok (.iaload, 1) := by decide +kernel
theorem dX12_mayBe_74 : decode cX12_mayBe 74 = .ok (.istore 5, 2) := by decide +kernel
theorem dX12_mayBe_76 : decode cX12_mayBe 76 = .ok (.aload_n 0, 1) := by decide +kernel
theorem dX12_mayBe_77 : decode cX12_mayBe 77 = .ok (.getfield 47, 3) := by decide +kernel
theorem dX12_mayBe_80 : decode cX12_mayBe 80 = .ok (.iconst 5, 1) := by decide +kernel
theorem dX12_mayBe_81 : decode cX12_mayBe 81 = .ok (.iload 4, 2) := by decide +kernel
theorem dX12_mayBe_83 : decode cX12_mayBe 83 = .ok (.imul, 1) := by decide +kernel
theorem dX12_mayBe_84 : decode cX12_mayBe 84 = .ok (.iaload, 1) := by decide +kernel
theorem dX12_mayBe_85 : decode cX12_mayBe 85 = .ok (.istore 6, 2) := by decide +kernel
theorem dX12_mayBe_87 : decode cX12_mayBe 87 = .ok (.aload_n 0, 1) := by decide +kernel
theorem dX12_mayBe_88 : decode cX12_mayBe 88 = .ok (.iload 5, 2) := by decide +kernel
theorem dX12_mayBe_90 : decode cX12_mayBe 90 = .ok (.iload_n 2, 1) := by decide +kernel
theorem dX12_mayBe_91 : decode cX12_mayBe 91 = .ok (.invokevirtual 158, 3) := by decide +kernel
theorem dX12_mayBe_94 : decode cX12_mayBe 94 = .ok (.istore 7, 2) := by decide +kernel
theorem dX12_mayBe_96 : decode cX12_mayBe 96 = .ok (.iload 7, 2) := by decide +kernel
theorem dX12_mayBe_98 : decode cX12_mayBe 98 = .ok (.aload_n 0, 1) := by decide +kernel
theorem dX12_mayBe_99 : decode cX12_mayBe 99 = .ok (.getfield 26, 3) := by decide +kernel
theorem dX12_mayBe_102 : decode cX12_mayBe 102 = .ok (.iload_n 1, 1) := by decide +kernel
theorem dX12_mayBe_103 : decode cX12_mayBe 103 = .ok (.iaload, 1) := by decide +kernel
theorem dX12_mayBe_104 : decode cX12_mayBe 104 = .ok (.if_icmp .gt 16, 3) := by decide +kernel
theorem dX12_mayBe_107 : decode cX12_mayBe 107 = .ok (.iload 6, 2) := by decide +kernel
theorem dX12_mayBe_109 : decode cX12_mayBe 109 = .ok (.aload_n 0, 1) := by decide +kernel
theorem dX12_mayBe_110 : decode cX12_mayBe 110 = .ok (.getfield 327, 3) := by decide +kernel
theorem dX12_mayBe_113 : decode cX12_mayBe 113 = .ok (.isub, 1) := by decide +kernel
theorem dX12_mayBe_114 : decode cX12_mayBe 114 = .ok (.iload_n 3, 1) := by decide +kernel
theorem dX12_mayBe_115 : decode cX12_mayBe 115 = .ok (.if_icmp .le 5, 3) := by decide +kernel
theorem dX12_mayBe_118 : decode cX12_mayBe 118 = .ok (.iconst 0, 1) := by decide +kernel
theorem dX12_mayBe_119 : decode cX12_mayBe 119 = .ok (.ireturn, 1) := by decide +kernel
theorem dX12_mayBe_120 : decode cX12_mayBe 120 = .ok (.iload 7, 2) := by decide +kernel
theorem dX12_mayBe_122 : decode cX12_mayBe 122 = .ok (.aload_n 0, 1) := by decide +kernel
theorem dX12_mayBe_123 : decode cX12_mayBe 123 = .ok (.getfield 26, 3) := by decide +kernel
theorem dX12_mayBe_126 : decode cX12_mayBe 126 = .ok (.iload_n 1, 1) := by decide +kernel
theorem dX12_mayBe_127 : decode cX12_mayBe 127 = .ok (.iaload, 1) := by decide +kernel
theorem dX12_mayBe_128 : decode cX12_mayBe 128 = .ok (.iconst 1, 1) := by decide +kernel
theorem dX12_mayBe_129 : decode cX12_mayBe 129 = .ok (.iadd, 1) := by decide +kernel
theorem dX12_mayBe_130 : decode cX12_mayBe 130 = .ok (.if_icmp .le 22, 3) := by decide +kernel
theorem dX12_mayBe_133 : decode cX12_mayBe 133 = .ok (.iload 6, 2) := by decide +kernel
theorem dX12_mayBe_135 : decode cX12_mayBe 135 = .ok (.aload_n 0, 1) := by decide +kernel
theorem dX12_mayBe_136 : decode cX12_mayBe 136 = .ok (.getfield 327, 3) := by decide +kernel
theorem dX12_mayBe_139 : decode cX12_mayBe 139 = .ok (.iadd, 1) := by decide +kernel
theorem dX12_mayBe_140 : decode cX12_mayBe 140 = .ok (.aload_n 0, 1) := by decide +kernel
theorem dX12_mayBe_141 : decode cX12_mayBe 141 = .ok (.iload_n 1, 1) := by decide +kernel
theorem dX12_mayBe_142 : decode cX12_mayBe 142 = .ok (.iload 5, 2) := by decide +kernel
theorem dX12_mayBe_144 : decode cX12_mayBe 144 = .ok (.invokevirtual 170, 3) := by decide +kernel
theorem dX12_mayBe_147 : decode cX12_mayBe 147 = .ok (.if_icmp .ge 5, 3) := by decide +kernel
theorem dX12_mayBe_150 : decode cX12_mayBe 150 = .ok (.iconst 0, 1) := by decide +kernel
theorem dX12_mayBe_151 : decode cX12_mayBe 151 = .ok (.ireturn, 1) := by decide +kernel
theorem dX12_mayBe_152 : decode cX12_mayBe 152 = .ok (.iinc 4 1, 3) := by decide +kernel
theorem dX12_mayBe_155 : decode cX12_mayBe 155 = .ok (.goto (-103), 3) := by decide +kernel
theorem dX12_mayBe_158 : decode cX12_mayBe 158 = .ok (.iconst 1, 1) := by decide +kernel
theorem dX12_mayBe_159 : decode cX12_mayBe 159 = .ok (.ireturn, 1) := by decide +kernel
theorem dX12_layMay_0 : decode cX12_layMay 0 = .ok (.iconst 0, 1) := by decide +kernel
theorem dX12_layMay_1 : decode cX12_layMay 1 = .ok (.istore_n 2, 1) := by decide +kernel
theorem dX12_layMay_2 : decode cX12_layMay 2 = .ok (.iload_n 2, 1) := by decide +kernel
theorem dX12_layMay_3 : decode cX12_layMay 3 = .ok (.aload_n 0, 1) := by decide +kernel
theorem dX12_layMay_4 : decode cX12_layMay 4 = .ok (.getfield 13, 3) := by decide +kernel
theorem dX12_layMay_7 : decode cX12_layMay 7 = .ok (.if_icmp .ge 21, 3) := by decide +kernel
theorem dX12_layMay_10 : decode cX12_layMay 10 = .ok (.aload_n 0, 1) := by decide +kernel
theorem dX12_layMay_11 : decode cX12_layMay 11 = .ok (.getfield 95, 3) := by decide +kernel
theorem dX12_layMay_14 : decode cX12_layMay 14 = .ok (.iload_n 2, 1) := by decide +kernel
theorem dX12_layMay_15 : decode cX12_layMay 15 = .ok (.aload_n 0, 1) := by decide +kernel
theorem dX12_layMay_16 : decode cX12_layMay 16 = .ok (.iload_n 1, 1) := by decide +kernel
theorem dX12_layMay_17 : decode cX12_layMay 17 = .ok (.iload_n 2, 1) := by decide +kernel
theorem dX12_layMay_18 : decode cX12_layMay 18 = .ok (.invokevirtual 330, 3) := by decide +kernel
theorem dX12_layMay_21 : decode cX12_layMay 21 = .ok (.bastore, 1) := by decide +kernel
theorem dX12_layMay_22 : decode cX12_layMay 22 = .ok (.iinc 2 1, 3) := by decide +kernel
theorem dX12_layMay_25 : decode cX12_layMay 25 = .ok (.goto (-23), 3) := by decide +kernel
theorem dX12_layMay_28 : decode cX12_layMay 28 = .ok (.return_, 1) := by decide +kernel
theorem dX12_may_0 : decode cX12_may 0 = .ok (.aload_n 0, 1) := by decide +kernel
theorem dX12_may_1 : decode cX12_may 1 = .ok (.iconst 0, 1) := by decide +kernel
theorem dX12_may_2 : decode cX12_may 2 = .ok (.putfield 135, 3) := by decide +kernel
theorem dX12_may_5 : decode cX12_may 5 = .ok (.aload_n 0, 1) := by decide +kernel
theorem dX12_may_6 : decode cX12_may 6 = .ok (.iload_n 1, 1) := by decide +kernel
theorem dX12_may_7 : decode cX12_may 7 = .ok (.invokevirtual 208, 3) := by decide +kernel
theorem dX12_may_10 : decode cX12_may 10 = .ok (.ifCond .eq 8, 3) := by decide +kernel
theorem dX12_may_13 : decode cX12_may 13 = .ok (.iload_n 2, 1) := by decide +kernel
theorem dX12_may_14 : decode cX12_may 14 = .ok (.iconst (-1), 1) := by decide +kernel
theorem dX12_may_15 : decode cX12_may 15 = .ok (.if_icmp .ge 5, 3) := by decide +kernel
theorem dX12_may_18 : decode cX12_may 18 = .ok (.iconst (-1), 1) := by decide +kernel
theorem dX12_may_19 : decode cX12_may 19 = .ok (.ireturn, 1) := by decide +kernel
theorem dX12_may_20 : decode cX12_may 20 = .ok (.aload_n 0, 1) := by decide +kernel
theorem dX12_may_21 : decode cX12_may 21 = .ok (.iload_n 1, 1) := by decide +kernel
theorem dX12_may_22 : decode cX12_may 22 = .ok (.invokevirtual 333, 3) := by decide +kernel
theorem dX12_may_25 : decode cX12_may 25 = .ok (.iconst 0, 1) := by decide +kernel
theorem dX12_may_26 : decode cX12_may 26 = .ok (.istore_n 3, 1) := by decide +kernel
theorem dX12_may_27 : decode cX12_may 27 = .ok (.iconst 0, 1) := by decide +kernel
theorem dX12_may_28 : decode cX12_may 28 = .ok (.istore 4, 2) := by decide +kernel
theorem dX12_may_30 : decode cX12_may 30 = .ok (.iload 4, 2) := by decide +kernel
theorem dX12_may_32 : decode cX12_may 32 = .ok (.aload_n 0, 1) := by decide +kernel
theorem dX12_may_33 : decode cX12_may 33 = .ok (.getfield 13, 3) := by decide +kernel
theorem dX12_may_36 : decode cX12_may 36 = .ok (.if_icmp .ge 33, 3) := by decide +kernel
theorem dX12_may_39 : decode cX12_may 39 = .ok (.aload_n 0, 1) := by decide +kernel
theorem dX12_may_40 : decode cX12_may 40 = .ok (.getfield 95, 3) := by decide +kernel
theorem dX12_may_43 : decode cX12_may 43 = .ok (.iload 4, 2) := by decide +kernel
theorem dX12_may_45 : decode cX12_may 45 = .ok (.baload, 1) := by decide +kernel
theorem dX12_may_46 : decode cX12_may 46 = .ok (.ifCond .ne 6, 3) := by decide +kernel
theorem dX12_may_49 : decode cX12_may 49 = .ok (.goto 14, 3) := by decide +kernel
theorem dX12_may_52 : decode cX12_may 52 = .ok (.iload_n 3, 1) := by decide +kernel
theorem dX12_may_53 : decode cX12_may 53 = .ok (.iload_n 2, 1) := by decide +kernel
theorem dX12_may_54 : decode cX12_may 54 = .ok (.if_icmp .ne 6, 3) := by decide +kernel
theorem dX12_may_57 : decode cX12_may 57 = .ok (.iload 4, 2) := by decide +kernel
theorem dX12_may_59 : decode cX12_may 59 = .ok (.ireturn, 1) := by decide +kernel
theorem dX12_may_60 : decode cX12_may 60 = .ok (.iinc 3 1, 3) := by decide +kernel
theorem dX12_may_63 : decode cX12_may 63 = .ok (.iinc 4 1, 3) := by decide +kernel
theorem dX12_may_66 : decode cX12_may 66 = .ok (.goto (-36), 3) := by decide +kernel
theorem dX12_may_69 : decode cX12_may 69 = .ok (.iload_n 2, 1) := by decide +kernel
theorem dX12_may_70 : decode cX12_may 70 = .ok (.iconst (-1), 1) := by decide +kernel
theorem dX12_may_71 : decode cX12_may 71 = .ok (.if_icmp .ne 7, 3) := by decide +kernel
theorem dX12_may_74 : decode cX12_may 74 = .ok (.iload_n 3, 1) := by decide +kernel
theorem dX12_may_75 : decode cX12_may 75 = .ok (.goto 4, 3) := by decide +kernel
theorem dX12_may_78 : decode cX12_may 78 = .ok (.iconst (-1), 1) := by decide +kernel
theorem dX12_may_79 : decode cX12_may 79 = .ok (.ireturn, 1) := by decide +kernel
theorem dX12_isCovered_0 : decode cX12_isCovered 0 = .ok (.iconst 0, 1) := by decide +kernel
theorem dX12_isCovered_1 : decode cX12_isCovered 1 = .ok (.istore 4, 2) := by decide +kernel
theorem dX12_isCovered_3 : decode cX12_isCovered 3 = .ok (.iload 4, 2) := by decide +kernel
theorem dX12_isCovered_5 : decode cX12_isCovered 5 = .ok (.iload_n 3, 1) := by decide +kernel
theorem dX12_isCovered_6 : decode cX12_isCovered 6 = .ok (.if_icmp .ge 27, 3) := by decide +kernel
theorem dX12_isCovered_9 : decode cX12_isCovered 9 = .ok (.aload_n 0, 1) := by decide +kernel
theorem dX12_isCovered_10 : decode cX12_isCovered 10 = .ok (.iload_n 1, 1) := by decide +kernel
theorem dX12_isCovered_11 : decode cX12_isCovered 11 = .ok (.aload_n 0, 1) := by decide +kernel
theorem dX12_isCovered_12 : decode cX12_isCovered 12 = .ok (.getfield 99, 3) := by decide +kernel
theorem dX12_isCovered_15 : decode cX12_isCovered 15 = .ok (.iload 4, 2) := by decide +kernel
theorem dX12_isCovered_17 : decode cX12_isCovered 17 = .ok (.iaload, 1) := by decide +kernel
theorem dX12_isCovered_18 : decode cX12_isCovered 18 = .ok (.invokevirtual 158, 3) := by decide +kernel
theorem dX12_isCovered_21 : decode cX12_isCovered 21 = .ok (.iload_n 2, 1) := by decide +kernel
theorem dX12_isCovered_22 : decode cX12_isCovered 22 = .ok (.if_icmp .gt 5, 3) := by decide +kernel
theorem dX12_isCovered_25 : decode cX12_isCovered 25 = .ok (.iconst 1, 1) := by decide +kernel
theorem dX12_isCovered_26 : decode cX12_isCovered 26 = .ok (.ireturn, 1) := by decide +kernel
theorem dX12_isCovered_27 : decode cX12_isCovered 27 = .ok (.iinc 4 1, 3) := by decide +kernel
theorem dX12_isCovered_30 : decode cX12_isCovered 30 = .ok (.goto (-27), 3) := by decide +kernel
theorem dX12_isCovered_33 : decode cX12_isCovered 33 = .ok (.iconst 0, 1) := by decide +kernel
theorem dX12_isCovered_34 : decode cX12_isCovered 34 = .ok (.ireturn, 1) := by decide +kernel
theorem dX12_needed_0 : decode cX12_needed 0 = .ok (.iload_n 2, 1) := by decide +kernel
theorem dX12_needed_1 : decode cX12_needed 1 = .ok (.istore_n 3, 1) := by decide +kernel
theorem dX12_needed_2 : decode cX12_needed 2 = .ok (.iconst 0, 1) := by decide +kernel
theorem dX12_needed_3 : decode cX12_needed 3 = .ok (.istore 4, 2) := by decide +kernel
theorem dX12_needed_5 : decode cX12_needed 5 = .ok (.iload 4, 2) := by decide +kernel
theorem dX12_needed_7 : decode cX12_needed 7 = .ok (.aload_n 0, 1) := by decide +kernel
theorem dX12_needed_8 : decode cX12_needed 8 = .ok (.getfield 13, 3) := by decide +kernel
theorem dX12_needed_11 : decode cX12_needed 11 = .ok (.if_icmp .ge 54, 3) := by decide +kernel
theorem dX12_needed_14 : decode cX12_needed 14 = .ok (.aload_n 0, 1) := by decide +kernel
theorem dX12_needed_15 : decode cX12_needed 15 = .ok (.getfield 95, 3) := by decide +kernel
theorem dX12_needed_18 : decode cX12_needed 18 = .ok (.aload_n 0, 1) := by decide +kernel
theorem dX12_needed_19 : decode cX12_needed 19 = .ok (.getfield 99, 3) := by decide +kernel
theorem dX12_needed_22 : decode cX12_needed 22 = .ok (.iconst 0, 1) := by decide +kernel
theorem dX12_needed_23 : decode cX12_needed 23 = .ok (.iaload, 1) := by decide +kernel
theorem dX12_needed_24 : decode cX12_needed 24 = .ok (.iload 4, 2) := by decide +kernel
theorem dX12_needed_26 : decode cX12_needed 26 = .ok (.iadd, 1) := by decide +kernel
theorem dX12_needed_27 : decode cX12_needed 27 = .ok (.aload_n 0, 1) := by decide +kernel
theorem dX12_needed_28 : decode cX12_needed 28 = .ok (.getfield 13, 3) := by decide +kernel
theorem dX12_needed_31 : decode cX12_needed 31 = .ok (.irem, 1) := by decide +kernel
theorem dX12_needed_32 : decode cX12_needed 32 = .ok (.baload, 1) := by decide +kernel
theorem dX12_needed_33 : decode cX12_needed 33 = .ok (.ifCond .eq 26, 3) := by decide +kernel
theorem dX12_needed_36 : decode cX12_needed 36 = .ok (.aload_n 0, 1) := by decide +kernel
theorem dX12_needed_37 : decode cX12_needed 37 = .ok (.aload_n 0, 1) := by decide +kernel
theorem dX12_needed_38 : decode cX12_needed 38 = .ok (.getfield 99, 3) := by decide +kernel
theorem dX12_needed_41 : decode cX12_needed 41 = .ok (.iconst 0, 1) := by decide +kernel
theorem dX12_needed_42 : decode cX12_needed 42 = .ok (.iaload, 1) := by decide +kernel
theorem dX12_needed_43 : decode cX12_needed 43 = .ok (.iload 4, 2) := by decide +kernel
theorem dX12_needed_45 : decode cX12_needed 45 = .ok (.iadd, 1) := by decide +kernel
theorem dX12_needed_46 : decode cX12_needed 46 = .ok (.aload_n 0, 1) := by decide +kernel
theorem dX12_needed_47 : decode cX12_needed 47 = .ok (.getfield 13, 3) := by decide +kernel
theorem dX12_needed_50 : decode cX12_needed 50 = .ok (.irem, 1) := by decide +kernel
theorem dX12_needed_51 : decode cX12_needed 51 = .ok (.iload_n 1, 1) := by decide +kernel
theorem dX12_needed_52 : decode cX12_needed 52 = .ok (.iload_n 3, 1) := by decide +kernel
theorem dX12_needed_53 : decode cX12_needed 53 = .ok (.invokevirtual 337, 3) := by decide +kernel
theorem dX12_needed_56 : decode cX12_needed 56 = .ok (.ifCond .eq 9, 3) := by decide +kernel
theorem dX12_needed_59 : decode cX12_needed 59 = .ok (.iinc 4 1, 3) := by decide +kernel
theorem dX12_needed_62 : decode cX12_needed 62 = .ok (.goto (-57), 3) := by decide +kernel
theorem dX12_needed_65 : decode cX12_needed 65 = .ok (.iload 4, 2) := by decide +kernel
theorem dX12_needed_67 : decode cX12_needed 67 = .ok (.aload_n 0, 1) := by decide +kernel
theorem dX12_needed_68 : decode cX12_needed 68 = .ok (.getfield 13, 3) := by decide +kernel
theorem dX12_needed_71 : decode cX12_needed 71 = .ok (.if_icmp .ne 7, 3) := by decide +kernel
theorem dX12_needed_74 : decode cX12_needed 74 = .ok (.iload_n 3, 1) := by decide +kernel
theorem dX12_needed_75 : decode cX12_needed 75 = .ok (.iload_n 2, 1) := by decide +kernel
theorem dX12_needed_76 : decode cX12_needed 76 = .ok (.isub, 1) := by decide +kernel
theorem dX12_needed_77 : decode cX12_needed 77 = .ok (.ireturn, 1) := by decide +kernel
theorem dX12_needed_78 : decode cX12_needed 78 = .ok (.aload_n 0, 1) := by decide +kernel
theorem dX12_needed_79 : decode cX12_needed 79 = .ok (.getfield 99, 3) := by decide +kernel
theorem dX12_needed_82 : decode cX12_needed 82 = .ok (.iconst 0, 1) := by decide +kernel
theorem dX12_needed_83 : decode cX12_needed 83 = .ok (.iaload, 1) := by decide +kernel
theorem dX12_needed_84 : decode cX12_needed 84 = .ok (.iload 4, 2) := by decide +kernel
theorem dX12_needed_86 : decode cX12_needed 86 = .ok (.iadd, 1) := by decide +kernel
theorem dX12_needed_87 : decode cX12_needed 87 = .ok (.istore 5, 2) := by decide +kernel
theorem dX12_needed_89 : decode cX12_needed 89 = .ok (.iload 5, 2) := by decide +kernel
theorem dX12_needed_91 : decode cX12_needed 91 = .ok (.iload_n 1, 1) := by decide +kernel
theorem dX12_needed_92 : decode cX12_needed 92 = .ok (.iadd, 1) := by decide +kernel
theorem dX12_needed_93 : decode cX12_needed 93 = .ok (.aload_n 0, 1) := by decide +kernel
theorem dX12_needed_94 : decode cX12_needed 94 = .ok (.getfield 13, 3) := by decide +kernel
theorem dX12_needed_97 : decode cX12_needed 97 = .ok (.iconst 1, 1) := by decide +kernel
theorem dX12_needed_98 : decode cX12_needed 98 = .ok (.isub, 1) := by decide +kernel
theorem dX12_needed_99 : decode cX12_needed 99 = .ok (.if_icmp .le 12, 3) := by decide +kernel
theorem dX12_needed_102 : decode cX12_needed 102 = .ok (.aload_n 0, 1) := by decide +kernel
theorem dX12_needed_103 : decode cX12_needed 103 = .ok (.getfield 13, 3) := by decide +kernel
theorem dX12_needed_106 : decode cX12_needed 106 = .ok (.iconst 1, 1) := by decide +kernel
theorem dX12_needed_107 : decode cX12_needed 107 = .ok (.isub, 1) := by decide +kernel
theorem dX12_needed_108 : decode cX12_needed 108 = .ok (.goto 7, 3) := by decide +kernel
theorem dX12_needed_111 : decode cX12_needed 111 = .ok (.iload 5, 2) := by decide +kernel
theorem dX12_needed_113 : decode cX12_needed 113 = .ok (.iload_n 1, 1) := by decide +kernel
theorem dX12_needed_114 : decode cX12_needed 114 = .ok (.iadd, 1) := by decide +kernel
theorem dX12_needed_115 : decode cX12_needed 115 = .ok (.istore 6, 2) := by decide +kernel
theorem dX12_needed_117 : decode cX12_needed 117 = .ok (.iload 6, 2) := by decide +kernel
theorem dX12_needed_119 : decode cX12_needed 119 = .ok (.aload_n 0, 1) := by decide +kernel
theorem dX12_needed_120 : decode cX12_needed 120 = .ok (.getfield 99, 3) := by decide +kernel
theorem dX12_needed_123 : decode cX12_needed 123 = .ok (.iload_n 3, 1) := by decide +kernel
theorem dX12_needed_124 : decode cX12_needed 124 = .ok (.iconst 1, 1) := by decide +kernel
theorem dX12_needed_125 : decode cX12_needed 125 = .ok (.isub, 1) := by decide +kernel
theorem dX12_needed_126 : decode cX12_needed 126 = .ok (.iaload, 1) := by decide +kernel
theorem dX12_needed_127 : decode cX12_needed 127 = .ok (.if_icmp .le 20, 3) := by decide +kernel
theorem dX12_needed_130 : decode cX12_needed 130 = .ok (.iload 6, 2) := by decide +kernel
theorem dX12_needed_132 : decode cX12_needed 132 = .ok (.iload 5, 2) := by decide +kernel
theorem dX12_needed_134 : decode cX12_needed 134 = .ok (.iload_n 1, 1) := by decide +kernel
theorem dX12_needed_135 : decode cX12_needed 135 = .ok (.isub, 1) := by decide +kernel
theorem dX12_needed_136 : decode cX12_needed 136 = .ok (.if_icmp .lt 11, 3) := by decide +kernel
theorem dX12_needed_139 : decode cX12_needed 139 = .ok (.iload_n 3, 1) := by decide +kernel
theorem dX12_needed_140 : decode cX12_needed 140 = .ok (.aload_n 0, 1) := by decide +kernel
theorem dX12_needed_141 : decode cX12_needed 141 = .ok (.getfield 13, 3) := by decide +kernel
theorem dX12_needed_144 : decode cX12_needed 144 = .ok (.if_icmp .ne 7, 3) := by decide +kernel
theorem dX12_needed_147 : decode cX12_needed 147 = .ok (.sipush 1000, 3) := by decide +kernel
theorem dX12_needed_150 : decode cX12_needed 150 = .ok (.ireturn, 1) := by decide +kernel
theorem dX12_needed_151 : decode cX12_needed 151 = .ok (.aload_n 0, 1) := by decide +kernel
theorem dX12_needed_152 : decode cX12_needed 152 = .ok (.getfield 99, 3) := by decide +kernel
theorem dX12_needed_155 : decode cX12_needed 155 = .ok (.iload_n 3, 1) := by decide +kernel
theorem dX12_needed_156 : decode cX12_needed 156 = .ok (.iload 6, 2) := by decide +kernel
theorem dX12_needed_158 : decode cX12_needed 158 = .ok (.iastore, 1) := by decide +kernel
theorem dX12_needed_159 : decode cX12_needed 159 = .ok (.iinc 3 1, 3) := by decide +kernel
theorem dX12_needed_162 : decode cX12_needed 162 = .ok (.goto (-160), 3) := by decide +kernel
theorem dX12_layCover_0 : decode cX12_layCover 0 = .ok (.aload_n 0, 1) := by decide +kernel
theorem dX12_layCover_1 : decode cX12_layCover 1 = .ok (.iload_n 1, 1) := by decide +kernel
theorem dX12_layCover_2 : decode cX12_layCover 2 = .ok (.invokevirtual 333, 3) := by decide +kernel
theorem dX12_layCover_5 : decode cX12_layCover 5 = .ok (.aload_n 0, 1) := by decide +kernel
theorem dX12_layCover_6 : decode cX12_layCover 6 = .ok (.iconst 0, 1) := by decide +kernel
theorem dX12_layCover_7 : decode cX12_layCover 7 = .ok (.putfield 340, 3) := by decide +kernel
theorem dX12_layCover_10 : decode cX12_layCover 10 = .ok (.iconst 0, 1) := by decide +kernel
theorem dX12_layCover_11 : decode cX12_layCover 11 = .ok (.istore_n 2, 1) := by decide +kernel
theorem dX12_layCover_12 : decode cX12_layCover 12 = .ok (.iconst 0, 1) := by decide +kernel
theorem dX12_layCover_13 : decode cX12_layCover 13 = .ok (.istore_n 3, 1) := by decide +kernel
theorem dX12_layCover_14 : decode cX12_layCover 14 = .ok (.iload_n 3, 1) := by decide +kernel
theorem dX12_layCover_15 : decode cX12_layCover 15 = .ok (.aload_n 0, 1) := by decide +kernel
theorem dX12_layCover_16 : decode cX12_layCover 16 = .ok (.getfield 13, 3) := by decide +kernel
theorem dX12_layCover_19 : decode cX12_layCover 19 = .ok (.if_icmp .ge 28, 3) := by decide +kernel
theorem dX12_layCover_22 : decode cX12_layCover 22 = .ok (.iload_n 2, 1) := by decide +kernel
theorem dX12_layCover_23 : decode cX12_layCover 23 = .ok (.ifCond .ne 12, 3) := by decide +kernel
theorem dX12_layCover_26 : decode cX12_layCover 26 = .ok (.aload_n 0, 1) := by decide +kernel
theorem dX12_layCover_27 : decode cX12_layCover 27 = .ok (.getfield 95, 3) := by decide +kernel
theorem dX12_layCover_30 : decode cX12_layCover 30 = .ok (.iload_n 3, 1) := by decide +kernel
theorem dX12_layCover_31 : decode cX12_layCover 31 = .ok (.baload, 1) := by decide +kernel
theorem dX12_layCover_32 : decode cX12_layCover 32 = .ok (.ifCond .eq 7, 3) := by decide +kernel
theorem dX12_layCover_35 : decode cX12_layCover 35 = .ok (.iconst 1, 1) := by decide +kernel
theorem dX12_layCover_36 : decode cX12_layCover 36 = .ok (.goto 4, 3) := by decide +kernel
theorem dX12_layCover_39 : decode cX12_layCover 39 = .ok (.iconst 0, 1) := by decide +kernel
theorem dX12_layCover_40 : decode cX12_layCover 40 = .ok (.istore_n 2, 1) := by decide +kernel
theorem dX12_layCover_41 : decode cX12_layCover 41 = .ok (.iinc 3 1, 3) := by decide +kernel
theorem dX12_layCover_44 : decode cX12_layCover 44 = .ok (.goto (-30), 3) := by decide +kernel
theorem dX12_layCover_47 : decode cX12_layCover 47 = .ok (.iload_n 2, 1) := by decide +kernel
theorem dX12_layCover_48 : decode cX12_layCover 48 = .ok (.ifCond .ne 4, 3) := by decide +kernel
theorem dX12_layCover_51 : decode cX12_layCover 51 = .ok (.return_, 1) := by decide +kernel
theorem dX12_layCover_52 : decode cX12_layCover 52 = .ok (.aload_n 0, 1) := by decide +kernel
theorem dX12_layCover_53 : decode cX12_layCover 53 = .ok (.getfield 26, 3) := by decide +kernel
theorem dX12_layCover_56 : decode cX12_layCover 56 = .ok (.iload_n 1, 1) := by decide +kernel
theorem dX12_layCover_57 : decode cX12_layCover 57 = .ok (.iaload, 1) := by decide +kernel
theorem dX12_layCover_58 : decode cX12_layCover 58 = .ok (.istore_n 3, 1) := by decide +kernel
theorem dX12_layCover_59 : decode cX12_layCover 59 = .ok (.sipush 1000, 3) := by decide +kernel
theorem dX12_layCover_62 : decode cX12_layCover 62 = .ok (.istore 4, 2) := by decide +kernel
theorem dX12_layCover_64 : decode cX12_layCover 64 = .ok (.iconst 0, 1) := by decide +kernel
theorem dX12_layCover_65 : decode cX12_layCover 65 = .ok (.istore 5, 2) := by decide +kernel
theorem dX12_layCover_67 : decode cX12_layCover 67 = .ok (.iconst 0, 1) := by decide +kernel
theorem dX12_layCover_68 : decode cX12_layCover 68 = .ok (.istore 6, 2) := by decide +kernel
theorem dX12_layCover_70 : decode cX12_layCover 70 = .ok (.iload 6, 2) := by decide +kernel
theorem dX12_layCover_72 : decode cX12_layCover 72 = .ok (.aload_n 0, 1) := by decide +kernel
theorem dX12_layCover_73 : decode cX12_layCover 73 = .ok (.getfield 13, 3) := by decide +kernel
theorem dX12_layCover_76 : decode cX12_layCover 76 = .ok (.if_icmp .ge 43, 3) := by decide +kernel
theorem dX12_layCover_79 : decode cX12_layCover 79 = .ok (.aload_n 0, 1) := by decide +kernel
theorem dX12_layCover_80 : decode cX12_layCover 80 = .ok (.getfield 99, 3) := by decide +kernel
theorem dX12_layCover_83 : decode cX12_layCover 83 = .ok (.iconst 0, 1) := by decide +kernel
theorem dX12_layCover_84 : decode cX12_layCover 84 = .ok (.iload 6, 2) := by decide +kernel
theorem dX12_layCover_86 : decode cX12_layCover 86 = .ok (.iastore, 1) := by decide +kernel
theorem dX12_layCover_87 : decode cX12_layCover 87 = .ok (.aload_n 0, 1) := by decide +kernel
theorem dX12_layCover_88 : decode cX12_layCover 88 = .ok (.iload_n 3, 1) := by decide +kernel
theorem dX12_layCover_89 : decode cX12_layCover 89 = .ok (.iconst 1, 1) := by decide +kernel
theorem dX12_layCover_90 : decode cX12_layCover 90 = .ok (.invokevirtual 343, 3) := by decide +kernel
theorem dX12_layCover_93 : decode cX12_layCover 93 = .ok (.istore 7, 2) := by decide +kernel
theorem dX12_layCover_95 : decode cX12_layCover 95 = .ok (.iload 7, 2) := by decide +kernel
theorem dX12_layCover_97 : decode cX12_layCover 97 = .ok (.iload 4, 2) := by decide +kernel
theorem dX12_layCover_99 : decode cX12_layCover 99 = .ok (.if_icmp .lt 6, 3) := by decide +kernel
theorem dX12_layCover_102 : decode cX12_layCover 102 = .ok (.goto 11, 3) := by decide +kernel
theorem dX12_layCover_105 : decode cX12_layCover 105 = .ok (.iload 7, 2) := by decide +kernel
theorem dX12_layCover_107 : decode cX12_layCover 107 = .ok (.istore 4, 2) := by decide +kernel
theorem dX12_layCover_109 : decode cX12_layCover 109 = .ok (.iload 6, 2) := by decide +kernel
theorem dX12_layCover_111 : decode cX12_layCover 111 = .ok (.istore 5, 2) := by decide +kernel
theorem dX12_layCover_113 : decode cX12_layCover 113 = .ok (.iinc 6 1, 3) := by decide +kernel
theorem dX12_layCover_116 : decode cX12_layCover 116 = .ok (.goto (-46), 3) := by decide +kernel
theorem dX12_layCover_119 : decode cX12_layCover 119 = .ok (.aload_n 0, 1) := by decide +kernel
theorem dX12_layCover_120 : decode cX12_layCover 120 = .ok (.getfield 99, 3) := by decide +kernel
theorem dX12_layCover_123 : decode cX12_layCover 123 = .ok (.iconst 0, 1) := by decide +kernel
theorem dX12_layCover_124 : decode cX12_layCover 124 = .ok (.iload 5, 2) := by decide +kernel
theorem dX12_layCover_126 : decode cX12_layCover 126 = .ok (.iastore, 1) := by decide +kernel
theorem dX12_layCover_127 : decode cX12_layCover 127 = .ok (.aload_n 0, 1) := by decide +kernel
theorem dX12_layCover_128 : decode cX12_layCover 128 = .ok (.iconst 1, 1) := by decide +kernel
theorem dX12_layCover_129 : decode cX12_layCover 129 = .ok (.putfield 340, 3) := by decide +kernel
theorem dX12_layCover_132 : decode cX12_layCover 132 = .ok (.iload 4, 2) := by decide +kernel
theorem dX12_layCover_134 : decode cX12_layCover 134 = .ok (.ifCond .le 80, 3) := by decide +kernel
theorem dX12_layCover_137 : decode cX12_layCover 137 = .ok (.aload_n 0, 1) := by decide +kernel
theorem dX12_layCover_138 : decode cX12_layCover 138 = .ok (.getfield 99, 3) := by decide +kernel
theorem dX12_layCover_141 : decode cX12_layCover 141 = .ok (.aload_n 0, 1) := by decide +kernel
theorem dX12_layCover_142 : decode cX12_layCover 142 = .ok (.getfield 340, 3) := by decide +kernel
theorem dX12_layCover_145 : decode cX12_layCover 145 = .ok (.iconst 1, 1) := by decide +kernel
theorem dX12_layCover_146 : decode cX12_layCover 146 = .ok (.isub, 1) := by decide +kernel
theorem dX12_layCover_147 : decode cX12_layCover 147 = .ok (.iaload, 1) := by decide +kernel
theorem dX12_layCover_148 : decode cX12_layCover 148 = .ok (.iconst 1, 1) := by decide +kernel
theorem dX12_layCover_149 : decode cX12_layCover 149 = .ok (.iadd, 1) := by decide +kernel
theorem dX12_layCover_150 : decode cX12_layCover 150 = .ok (.istore 6, 2) := by decide +kernel
theorem dX12_layCover_152 : decode cX12_layCover 152 = .ok (.aload_n 0, 1) := by decide +kernel
theorem dX12_layCover_153 : decode cX12_layCover 153 = .ok (.getfield 99, 3) := by decide +kernel
theorem dX12_layCover_156 : decode cX12_layCover 156 = .ok (.aload_n 0, 1) := by decide +kernel
theorem dX12_layCover_157 : decode cX12_layCover 157 = .ok (.getfield 340, 3) := by decide +kernel
theorem dX12_layCover_160 : decode cX12_layCover 160 = .ok (.iload 6, 2) := by decide +kernel
theorem dX12_layCover_162 : decode cX12_layCover 162 = .ok (.iastore, 1) := by decide +kernel
theorem dX12_layCover_163 : decode cX12_layCover 163 = .ok (.aload_n 0, 1) := by decide +kernel
theorem dX12_layCover_164 : decode cX12_layCover 164 = .ok (.iload_n 3, 1) := by decide +kernel
theorem dX12_layCover_165 : decode cX12_layCover 165 = .ok (.aload_n 0, 1) := by decide +kernel
theorem dX12_layCover_166 : decode cX12_layCover 166 = .ok (.getfield 340, 3) := by decide +kernel
theorem dX12_layCover_169 : decode cX12_layCover 169 = .ok (.iconst 1, 1) := by decide +kernel
theorem dX12_layCover_170 : decode cX12_layCover 170 = .ok (.iadd, 1) := by decide +kernel
theorem dX12_layCover_171 : decode cX12_layCover 171 = .ok (.invokevirtual 343, 3) := by decide +kernel
theorem dX12_layCover_174 : decode cX12_layCover 174 = .ok (.iload 4, 2) := by decide +kernel
theorem dX12_layCover_176 : decode cX12_layCover 176 = .ok (.iconst 1, 1) := by decide +kernel
theorem dX12_layCover_177 : decode cX12_layCover 177 = .ok (.isub, 1) := by decide +kernel
theorem dX12_layCover_178 : decode cX12_layCover 178 = .ok (.if_icmp .le 20, 3) := by decide +kernel
theorem dX12_layCover_181 : decode cX12_layCover 181 = .ok (.iinc 6 1, 3) := by decide +kernel
theorem dX12_layCover_184 : decode cX12_layCover 184 = .ok (.aload_n 0, 1) := by decide +kernel
theorem dX12_layCover_185 : decode cX12_layCover 185 = .ok (.getfield 99, 3) := by decide +kernel
theorem dX12_layCover_188 : decode cX12_layCover 188 = .ok (.aload_n 0, 1) := by decide +kernel
theorem dX12_layCover_189 : decode cX12_layCover 189 = .ok (.getfield 340, 3) := by decide +kernel
theorem dX12_layCover_192 : decode cX12_layCover 192 = .ok (.iload 6, 2) := by decide +kernel
theorem dX12_layCover_194 : decode cX12_layCover 194 = .ok (.iastore, 1) := by decide +kernel
theorem dX12_layCover_195 : decode cX12_layCover 195 = .ok (.goto (-32), 3) := by decide +kernel
theorem dX12_layCover_198 : decode cX12_layCover 198 = .ok (.aload_n 0, 1) := by decide +kernel
theorem dX12_layCover_199 : decode cX12_layCover 199 = .ok (.dup, 1) := by decide +kernel
theorem dX12_layCover_200 : decode cX12_layCover 200 = .ok (.getfield 340, 3) := by decide +kernel
theorem dX12_layCover_203 : decode cX12_layCover 203 = .ok (.iconst 1, 1) := by decide +kernel
theorem dX12_layCover_204 : decode cX12_layCover 204 = .ok (.iadd, 1) := by decide +kernel
theorem dX12_layCover_205 : decode cX12_layCover 205 = .ok (.putfield 340, 3) := by decide +kernel
theorem dX12_layCover_208 : decode cX12_layCover 208 = .ok (.iinc 4 (-1), 3) := by decide +kernel
theorem dX12_layCover_211 : decode cX12_layCover 211 = .ok (.goto (-79), 3) := by decide +kernel
theorem dX12_layCover_214 : decode cX12_layCover 214 = .ok (.return_, 1) := by decide +kernel
theorem dX12_cover_0 : decode cX12_cover 0 = .ok (.aload_n 0, 1) := by decide +kernel
theorem dX12_cover_1 : decode cX12_cover 1 = .ok (.iconst 0, 1) := by decide +kernel
theorem dX12_cover_2 : decode cX12_cover 2 = .ok (.putfield 135, 3) := by decide +kernel
theorem dX12_cover_5 : decode cX12_cover 5 = .ok (.aload_n 0, 1) := by decide +kernel
theorem dX12_cover_6 : decode cX12_cover 6 = .ok (.iload_n 1, 1) := by decide +kernel
theorem dX12_cover_7 : decode cX12_cover 7 = .ok (.invokevirtual 208, 3) := by decide +kernel
theorem dX12_cover_10 : decode cX12_cover 10 = .ok (.ifCond .eq 8, 3) := by decide +kernel
theorem dX12_cover_13 : decode cX12_cover 13 = .ok (.iload_n 2, 1) := by decide +kernel
theorem dX12_cover_14 : decode cX12_cover 14 = .ok (.iconst (-1), 1) := by decide +kernel
theorem dX12_cover_15 : decode cX12_cover 15 = .ok (.if_icmp .ge 5, 3) := by decide +kernel
theorem dX12_cover_18 : decode cX12_cover 18 = .ok (.iconst (-1), 1) := by decide +kernel
theorem dX12_cover_19 : decode cX12_cover 19 = .ok (.ireturn, 1) := by decide +kernel
theorem dX12_cover_20 : decode cX12_cover 20 = .ok (.aload_n 0, 1) := by decide +kernel
theorem dX12_cover_21 : decode cX12_cover 21 = .ok (.iload_n 1, 1) := by decide +kernel
theorem dX12_cover_22 : decode cX12_cover 22 = .ok (.invokevirtual 346, 3) := by decide +kernel
theorem dX12_cover_25 : decode cX12_cover 25 = .ok (.iload_n 2, 1) := by decide +kernel
theorem dX12_cover_26 : decode cX12_cover 26 = .ok (.iconst (-1), 1) := by decide +kernel
theorem dX12_cover_27 : decode cX12_cover 27 = .ok (.if_icmp .ne 10, 3) := by decide +kernel
theorem dX12_cover_30 : decode cX12_cover 30 = .ok (.aload_n 0, 1) := by decide +kernel
theorem dX12_cover_31 : decode cX12_cover 31 = .ok (.getfield 340, 3) := by decide +kernel
theorem dX12_cover_34 : decode cX12_cover 34 = .ok (.goto 21, 3) := by decide +kernel
theorem dX12_cover_37 : decode cX12_cover 37 = .ok (.iload_n 2, 1) := by decide +kernel
theorem dX12_cover_38 : decode cX12_cover 38 = .ok (.aload_n 0, 1) := by decide +kernel
theorem dX12_cover_39 : decode cX12_cover 39 = .ok (.getfield 340, 3) := by decide +kernel
theorem dX12_cover_42 : decode cX12_cover 42 = .ok (.if_icmp .ge 12, 3) := by decide +kernel
theorem dX12_cover_45 : decode cX12_cover 45 = .ok (.aload_n 0, 1) := by decide +kernel
theorem dX12_cover_46 : decode cX12_cover 46 = .ok (.getfield 99, 3) := by decide +kernel
theorem dX12_cover_49 : decode cX12_cover 49 = .ok (.iload_n 2, 1) := by decide +kernel
theorem dX12_cover_50 : decode cX12_cover 50 = .ok (.iaload, 1) := by decide +kernel
theorem dX12_cover_51 : decode cX12_cover 51 = .ok (.goto 4, 3) := by decide +kernel
theorem dX12_cover_54 : decode cX12_cover 54 = .ok (.iconst (-1), 1) := by decide +kernel
theorem dX12_cover_55 : decode cX12_cover 55 = .ok (.ireturn, 1) := by decide +kernel
theorem dX12_layRows_0 : decode cX12_layRows 0 = .ok (.aload_n 0, 1) := by decide +kernel
theorem dX12_layRows_1 : decode cX12_layRows 1 = .ok (.lconst 1, 1) := by decide +kernel
theorem dX12_layRows_2 : decode cX12_layRows 2 = .ok (.putfield 349, 3) := by decide +kernel
theorem dX12_layRows_5 : decode cX12_layRows 5 = .ok (.iconst 0, 1) := by decide +kernel
theorem dX12_layRows_6 : decode cX12_layRows 6 = .ok (.istore_n 1, 1) := by decide +kernel
theorem dX12_layRows_7 : decode cX12_layRows 7 = .ok (.iload_n 1, 1) := by decide +kernel
theorem dX12_layRows_8 : decode cX12_layRows 8 = .ok (.aload_n 0, 1) := by decide +kernel
theorem dX12_layRows_9 : decode cX12_layRows 9 = .ok (.getfield 141, 3) := by decide +kernel
theorem dX12_layRows_12 : decode cX12_layRows 12 = .ok (.if_icmp .ge 71, 3) := by decide +kernel
theorem dX12_layRows_15 : decode cX12_layRows 15 = .ok (.aload_n 0, 1) := by decide +kernel
theorem dX12_layRows_16 : decode cX12_layRows 16 = .ok (.iload_n 1, 1) := by decide +kernel
theorem dX12_layRows_17 : decode cX12_layRows 17 = .ok (.invokevirtual 346, 3) := by decide +kernel
theorem dX12_layRows_20 : decode cX12_layRows 20 = .ok (.aload_n 0, 1) := by decide +kernel
theorem dX12_layRows_21 : decode cX12_layRows 21 = .ok (.getfield 102, 3) := by decide +kernel
theorem dX12_layRows_24 : decode cX12_layRows 24 = .ok (.iload_n 1, 1) := by decide +kernel
theorem dX12_layRows_25 : decode cX12_layRows 25 = .ok (.aload_n 0, 1) := by decide +kernel
theorem dX12_layRows_26 : decode cX12_layRows 26 = .ok (.getfield 340, 3) := by decide +kernel
theorem dX12_layRows_29 : decode cX12_layRows 29 = .ok (.iastore, 1) := by decide +kernel
theorem dX12_layRows_30 : decode cX12_layRows 30 = .ok (.aload_n 0, 1) := by decide +kernel
theorem dX12_layRows_31 : decode cX12_layRows 31 = .ok (.dup, 1) := by decide +kernel
theorem dX12_layRows_32 : decode cX12_layRows 32 = .ok (.getfield 349, 3) := by decide +kernel
theorem dX12_layRows_35 : decode cX12_layRows 35 = .ok (.aload_n 0, 1) := by decide +kernel
theorem dX12_layRows_36 : decode cX12_layRows 36 = .ok (.getfield 340, 3) := by decide +kernel
theorem dX12_layRows_39 : decode cX12_layRows 39 = .ok (.i2l, 1) := by decide +kernel
theorem dX12_layRows_40 : decode cX12_layRows 40 = .ok (.lmul, 1) := by decide +kernel
theorem dX12_layRows_41 : decode cX12_layRows 41 = .ok (.putfield 349, 3) := by decide +kernel
theorem dX12_layRows_44 : decode cX12_layRows 44 = .ok (.iconst 0, 1) := by decide +kernel
theorem dX12_layRows_45 : decode cX12_layRows 45 = .ok (.istore_n 2, 1) := by decide +kernel
theorem dX12_layRows_46 : decode cX12_layRows 46 = .ok (.iload_n 2, 1) := by decide +kernel
theorem dX12_layRows_47 : decode cX12_layRows 47 = .ok (.aload_n 0, 1) := by decide +kernel
theorem dX12_layRows_48 : decode cX12_layRows 48 = .ok (.getfield 340, 3) := by decide +kernel
theorem dX12_layRows_51 : decode cX12_layRows 51 = .ok (.if_icmp .ge 26, 3) := by decide +kernel
theorem dX12_layRows_54 : decode cX12_layRows 54 = .ok (.aload_n 0, 1) := by decide +kernel
theorem dX12_layRows_55 : decode cX12_layRows 55 = .ok (.getfield 105, 3) := by decide +kernel
theorem dX12_layRows_58 : decode cX12_layRows 58 = .ok (.bipush 100, 2) := by decide +kernel
theorem dX12_layRows_60 : decode cX12_layRows 60 = .ok (.iload_n 1, 1) := by decide +kernel
theorem dX12_layRows_61 : decode cX12_layRows 61 = .ok (.imul, 1) := by decide +kernel
theorem dX12_layRows_62 : decode cX12_layRows 62 = .ok (.iload_n 2, 1) := by decide +kernel
theorem dX12_layRows_63 : decode cX12_layRows 63 = .ok (.iadd, 1) := by decide +kernel
theorem dX12_layRows_64 : decode cX12_layRows 64 = .ok (.aload_n 0, 1) := by decide +kernel
theorem dX12_layRows_65 : decode cX12_layRows 65 = .ok (.getfield 99, 3) := by decide +kernel
theorem dX12_layRows_68 : decode cX12_layRows 68 = .ok (.iload_n 2, 1) := by decide +kernel
theorem dX12_layRows_69 : decode cX12_layRows 69 = .ok (.iaload, 1) := by decide +kernel
theorem dX12_layRows_70 : decode cX12_layRows 70 = .ok (.iastore, 1) := by decide +kernel
theorem dX12_layRows_71 : decode cX12_layRows 71 = .ok (.iinc 2 1, 3) := by decide +kernel
theorem dX12_layRows_74 : decode cX12_layRows 74 = .ok (.goto (-28), 3) := by decide +kernel
theorem dX12_layRows_77 : decode cX12_layRows 77 = .ok (.iinc 1 1, 3) := by decide +kernel
theorem dX12_layRows_80 : decode cX12_layRows 80 = .ok (.goto (-73), 3) := by decide +kernel
theorem dX12_layRows_83 : decode cX12_layRows 83 = .ok (.aload_n 0, 1) := by decide +kernel
theorem dX12_layRows_84 : decode cX12_layRows 84 = .ok (.getfield 349, 3) := by decide +kernel
theorem dX12_layRows_87 : decode cX12_layRows 87 = .ok (.ldc2_w 353, 3) := by decide +kernel
theorem dX12_layRows_90 : decode cX12_layRows 90 = .ok (.lcmp, 1) := by decide +kernel
theorem dX12_layRows_91 : decode cX12_layRows 91 = .ok (.ifCond .gt 7, 3) := by decide +kernel
theorem dX12_layRows_94 : decode cX12_layRows 94 = .ok (.iconst 1, 1) := by decide +kernel
theorem dX12_layRows_95 : decode cX12_layRows 95 = .ok (.goto 4, 3) := by decide +kernel
theorem dX12_layRows_98 : decode cX12_layRows 98 = .ok (.iconst 0, 1) := by decide +kernel
theorem dX12_layRows_99 : decode cX12_layRows 99 = .ok (.ireturn, 1) := by decide +kernel
theorem dX12_soughtIn_0 : decode cX12_soughtIn 0 = .ok (.iload_n 1, 1) := by decide +kernel
theorem dX12_soughtIn_1 : decode cX12_soughtIn 1 = .ok (.istore 4, 2) := by decide +kernel
theorem dX12_soughtIn_3 : decode cX12_soughtIn 3 = .ok (.iconst 0, 1) := by decide +kernel
theorem dX12_soughtIn_4 : decode cX12_soughtIn 4 = .ok (.istore 5, 2) := by decide +kernel
theorem dX12_soughtIn_6 : decode cX12_soughtIn 6 = .ok (.iload 5, 2) := by decide +kernel
theorem dX12_soughtIn_8 : decode cX12_soughtIn 8 = .ok (.iload_n 2, 1) := by decide +kernel
theorem dX12_soughtIn_9 : decode cX12_soughtIn 9 = .ok (.if_icmp .ge 21, 3) := by decide +kernel
theorem dX12_soughtIn_12 : decode cX12_soughtIn 12 = .ok (.iload 4, 2) := by decide +kernel
theorem dX12_soughtIn_14 : decode cX12_soughtIn 14 = .ok (.aload_n 0, 1) := by decide +kernel
theorem dX12_soughtIn_15 : decode cX12_soughtIn 15 = .ok (.getfield 102, 3) := by decide +kernel
theorem dX12_soughtIn_18 : decode cX12_soughtIn 18 = .ok (.iload 5, 2) := by decide +kernel
theorem dX12_soughtIn_20 : decode cX12_soughtIn 20 = .ok (.iaload, 1) := by decide +kernel
theorem dX12_soughtIn_21 : decode cX12_soughtIn 21 = .ok (.idiv, 1) := by decide +kernel
theorem dX12_soughtIn_22 : decode cX12_soughtIn 22 = .ok (.istore 4, 2) := by decide +kernel
theorem dX12_soughtIn_24 : decode cX12_soughtIn 24 = .ok (.iinc 5 1, 3) := by decide +kernel
theorem dX12_soughtIn_27 : decode cX12_soughtIn 27 = .ok (.goto (-21), 3) := by decide +kernel
theorem dX12_soughtIn_30 : decode cX12_soughtIn 30 = .ok (.iload 4, 2) := by decide +kernel
theorem dX12_soughtIn_32 : decode cX12_soughtIn 32 = .ok (.aload_n 0, 1) := by decide +kernel
theorem dX12_soughtIn_33 : decode cX12_soughtIn 33 = .ok (.getfield 102, 3) := by decide +kernel
theorem dX12_soughtIn_36 : decode cX12_soughtIn 36 = .ok (.iload_n 2, 1) := by decide +kernel
theorem dX12_soughtIn_37 : decode cX12_soughtIn 37 = .ok (.iaload, 1) := by decide +kernel
theorem dX12_soughtIn_38 : decode cX12_soughtIn 38 = .ok (.irem, 1) := by decide +kernel
theorem dX12_soughtIn_39 : decode cX12_soughtIn 39 = .ok (.istore 5, 2) := by decide +kernel
theorem dX12_soughtIn_41 : decode cX12_soughtIn 41 = .ok (.aload_n 0, 1) := by decide +kernel
theorem dX12_soughtIn_42 : decode cX12_soughtIn 42 = .ok (.getfield 105, 3) := by decide +kernel
theorem dX12_soughtIn_45 : decode cX12_soughtIn 45 = .ok (.bipush 100, 2) := by decide +kernel
theorem dX12_soughtIn_47 : decode cX12_soughtIn 47 = .ok (.iload_n 2, 1) := by decide +kernel
theorem dX12_soughtIn_48 : decode cX12_soughtIn 48 = .ok (.imul, 1) := by decide +kernel
theorem dX12_soughtIn_49 : decode cX12_soughtIn 49 = .ok (.iload_n 3, 1) := by decide +kernel
theorem dX12_soughtIn_50 : decode cX12_soughtIn 50 = .ok (.iload_n 2, 1) := by decide +kernel
theorem dX12_soughtIn_51 : decode cX12_soughtIn 51 = .ok (.ishr, 1) := by decide +kernel
theorem dX12_soughtIn_52 : decode cX12_soughtIn 52 = .ok (.iconst 1, 1) := by decide +kernel
theorem dX12_soughtIn_53 : decode cX12_soughtIn 53 = .ok (.iand, 1) := by decide +kernel
theorem dX12_soughtIn_54 : decode cX12_soughtIn 54 = .ok (.iconst 1, 1) := by decide +kernel
theorem dX12_soughtIn_55 : decode cX12_soughtIn 55 = .ok (.if_icmp .ne 17, 3) := by decide +kernel
theorem dX12_soughtIn_58 : decode cX12_soughtIn 58 = .ok (.aload_n 0, 1) := by decide +kernel
theorem dX12_soughtIn_59 : decode cX12_soughtIn 59 = .ok (.getfield 102, 3) := by decide +kernel
theorem dX12_soughtIn_62 : decode cX12_soughtIn 62 = .ok (.iload_n 2, 1) := by decide +kernel
theorem dX12_soughtIn_63 : decode cX12_soughtIn 63 = .ok (.iaload, 1) := by decide +kernel
theorem dX12_soughtIn_64 : decode cX12_soughtIn 64 = .ok (.iconst 1, 1) := by decide +kernel
theorem dX12_soughtIn_65 : decode cX12_soughtIn 65 = .ok (.isub, 1) := by decide +kernel
theorem dX12_soughtIn_66 : decode cX12_soughtIn 66 = .ok (.iload 5, 2) := by decide +kernel
theorem dX12_soughtIn_68 : decode cX12_soughtIn 68 = .ok (.isub, 1) := by decide +kernel
theorem dX12_soughtIn_69 : decode cX12_soughtIn 69 = .ok (.goto 5, 3) := by decide +kernel
theorem dX12_soughtIn_72 : decode cX12_soughtIn 72 = .ok (.iload 5, 2) := by decide +kernel
theorem dX12_soughtIn_74 : decode cX12_soughtIn 74 = .ok (.iadd, 1) := by decide +kernel
theorem dX12_soughtIn_75 : decode cX12_soughtIn 75 = .ok (.iaload, 1) := by decide +kernel
theorem dX12_soughtIn_76 : decode cX12_soughtIn 76 = .ok (.ireturn, 1) := by decide +kernel
theorem dX12_stepsOver_0 : decode cX12_stepsOver 0 = .ok (.aload_n 0, 1) := by decide +kernel
theorem dX12_stepsOver_1 : decode cX12_stepsOver 1 = .ok (.getfield 148, 3) := by decide +kernel
theorem dX12_stepsOver_4 : decode cX12_stepsOver 4 = .ok (.istore_n 3, 1) := by decide +kernel
theorem dX12_stepsOver_5 : decode cX12_stepsOver 5 = .ok (.aload_n 0, 1) := by decide +kernel
theorem dX12_stepsOver_6 : decode cX12_stepsOver 6 = .ok (.getfield 151, 3) := by decide +kernel
theorem dX12_stepsOver_9 : decode cX12_stepsOver 9 = .ok (.istore 4, 2) := by decide +kernel
theorem dX12_stepsOver_11 : decode cX12_stepsOver 11 = .ok (.iconst 0, 1) := by decide +kernel
theorem dX12_stepsOver_12 : decode cX12_stepsOver 12 = .ok (.istore 5, 2) := by decide +kernel
theorem dX12_stepsOver_14 : decode cX12_stepsOver 14 = .ok (.iload 5, 2) := by decide +kernel
theorem dX12_stepsOver_16 : decode cX12_stepsOver 16 = .ok (.aload_n 0, 1) := by decide +kernel
theorem dX12_stepsOver_17 : decode cX12_stepsOver 17 = .ok (.getfield 141, 3) := by decide +kernel
theorem dX12_stepsOver_20 : decode cX12_stepsOver 20 = .ok (.if_icmp .ge 53, 3) := by decide +kernel
theorem dX12_stepsOver_23 : decode cX12_stepsOver 23 = .ok (.aload_n 0, 1) := by decide +kernel
theorem dX12_stepsOver_24 : decode cX12_stepsOver 24 = .ok (.getfield 111, 3) := by decide +kernel
theorem dX12_stepsOver_27 : decode cX12_stepsOver 27 = .ok (.iload 5, 2) := by decide +kernel
theorem dX12_stepsOver_29 : decode cX12_stepsOver 29 = .ok (.aload_n 0, 1) := by decide +kernel
theorem dX12_stepsOver_30 : decode cX12_stepsOver 30 = .ok (.getfield 41, 3) := by decide +kernel
theorem dX12_stepsOver_33 : decode cX12_stepsOver 33 = .ok (.iload 5, 2) := by decide +kernel
theorem dX12_stepsOver_35 : decode cX12_stepsOver 35 = .ok (.iaload, 1) := by decide +kernel
theorem dX12_stepsOver_36 : decode cX12_stepsOver 36 = .ok (.iastore, 1) := by decide +kernel
theorem dX12_stepsOver_37 : decode cX12_stepsOver 37 = .ok (.aload_n 0, 1) := by decide +kernel
theorem dX12_stepsOver_38 : decode cX12_stepsOver 38 = .ok (.getfield 114, 3) := by decide +kernel
theorem dX12_stepsOver_41 : decode cX12_stepsOver 41 = .ok (.iload 5, 2) := by decide +kernel
theorem dX12_stepsOver_43 : decode cX12_stepsOver 43 = .ok (.aload_n 0, 1) := by decide +kernel
theorem dX12_stepsOver_44 : decode cX12_stepsOver 44 = .ok (.getfield 44, 3) := by decide +kernel
theorem dX12_stepsOver_47 : decode cX12_stepsOver 47 = .ok (.iload 5, 2) := by decide +kernel
theorem dX12_stepsOver_49 : decode cX12_stepsOver 49 = .ok (.iaload, 1) := by decide +kernel
theorem dX12_stepsOver_50 : decode cX12_stepsOver 50 = .ok (.iastore, 1) := by decide +kernel
theorem dX12_stepsOver_51 : decode cX12_stepsOver 51 = .ok (.aload_n 0, 1) := by decide +kernel
theorem dX12_stepsOver_52 : decode cX12_stepsOver 52 = .ok (.getfield 41, 3) := by decide +kernel
theorem dX12_stepsOver_55 : decode cX12_stepsOver 55 = .ok (.iload 5, 2) := by decide +kernel
theorem dX12_stepsOver_57 : decode cX12_stepsOver 57 = .ok (.iconst 0, 1) := by decide +kernel
theorem dX12_stepsOver_58 : decode cX12_stepsOver 58 = .ok (.iastore, 1) := by decide +kernel
theorem dX12_stepsOver_59 : decode cX12_stepsOver 59 = .ok (.aload_n 0, 1) := by decide +kernel
theorem dX12_stepsOver_60 : decode cX12_stepsOver 60 = .ok (.getfield 44, 3) := by decide +kernel
theorem dX12_stepsOver_63 : decode cX12_stepsOver 63 = .ok (.iload 5, 2) := by decide +kernel
theorem dX12_stepsOver_65 : decode cX12_stepsOver 65 = .ok (.iconst 0, 1) := by decide +kernel
theorem dX12_stepsOver_66 : decode cX12_stepsOver 66 = .ok (.iastore, 1) := by decide +kernel
theorem dX12_stepsOver_67 : decode cX12_stepsOver 67 = .ok (.iinc 5 1, 3) := by decide +kernel
theorem dX12_stepsOver_70 : decode cX12_stepsOver 70 = .ok (.goto (-56), 3) := by decide +kernel
theorem dX12_stepsOver_73 : decode cX12_stepsOver 73 = .ok (.aload_n 0, 1) := by decide +kernel
theorem dX12_stepsOver_74 : decode cX12_stepsOver 74 = .ok (.iconst 0, 1) := by decide +kernel
theorem dX12_stepsOver_75 : decode cX12_stepsOver 75 = .ok (.putfield 148, 3) := by decide +kernel
theorem dX12_stepsOver_78 : decode cX12_stepsOver 78 = .ok (.lconst 0, 1) := by decide +kernel
theorem dX12_stepsOver_79 : decode cX12_stepsOver 79 = .ok (.lstore 5, 2) := by decide +kernel
theorem dX12_stepsOver_81 : decode cX12_stepsOver 81 = .ok (.iconst 0, 1) := by decide +kernel
theorem dX12_stepsOver_82 : decode cX12_stepsOver 82 = .ok (.istore 7, 2) := by decide +kernel
theorem dX12_stepsOver_84 : decode cX12_stepsOver 84 = .ok (.iload 7, 2) := by decide +kernel
theorem dX12_stepsOver_86 : decode cX12_stepsOver 86 = .ok (.iload_n 1, 1) := by decide +kernel
theorem dX12_stepsOver_87 : decode cX12_stepsOver 87 = .ok (.if_icmp .ge 101, 3) := by decide +kernel
theorem dX12_stepsOver_90 : decode cX12_stepsOver 90 = .ok (.iload 7, 2) := by decide +kernel
theorem dX12_stepsOver_92 : decode cX12_stepsOver 92 = .ok (.ifCond .ne 7, 3) := by decide +kernel
theorem dX12_stepsOver_95 : decode cX12_stepsOver 95 = .ok (.iconst 1, 1) := by decide +kernel
theorem dX12_stepsOver_96 : decode cX12_stepsOver 96 = .ok (.goto 4, 3) := by decide +kernel
theorem dX12_stepsOver_99 : decode cX12_stepsOver 99 = .ok (.iconst 0, 1) := by decide +kernel
theorem dX12_stepsOver_100 : decode cX12_stepsOver 100 = .ok (.istore 8, 2) := by decide +kernel
theorem dX12_stepsOver_102 : decode cX12_stepsOver 102 = .ok (.aload_n 0, 1) := by decide +kernel
theorem dX12_stepsOver_103 : decode cX12_stepsOver 103 = .ok (.getfield 141, 3) := by decide +kernel
theorem dX12_stepsOver_106 : decode cX12_stepsOver 106 = .ok (.iconst 1, 1) := by decide +kernel
theorem dX12_stepsOver_107 : decode cX12_stepsOver 107 = .ok (.isub, 1) := by decide +kernel
theorem dX12_stepsOver_108 : decode cX12_stepsOver 108 = .ok (.istore 9, 2) := by decide +kernel
theorem dX12_stepsOver_110 : decode cX12_stepsOver 110 = .ok (.iload 9, 2) := by decide +kernel
theorem dX12_stepsOver_112 : decode cX12_stepsOver 112 = .ok (.ifCond .lt 70, 3) := by decide +kernel
theorem dX12_stepsOver_115 : decode cX12_stepsOver 115 = .ok (.iload 8, 2) := by decide +kernel
theorem dX12_stepsOver_117 : decode cX12_stepsOver 117 = .ok (.ifCond .ne 26, 3) := by decide +kernel
theorem dX12_stepsOver_120 : decode cX12_stepsOver 120 = .ok (.aload_n 0, 1) := by decide +kernel
theorem dX12_stepsOver_121 : decode cX12_stepsOver 121 = .ok (.iload 7, 2) := by decide +kernel
theorem dX12_stepsOver_123 : decode cX12_stepsOver 123 = .ok (.iload 9, 2) := by decide +kernel
theorem dX12_stepsOver_125 : decode cX12_stepsOver 125 = .ok (.iload_n 2, 1) := by decide +kernel
theorem dX12_stepsOver_126 : decode cX12_stepsOver 126 = .ok (.invokevirtual 355, 3) := by decide +kernel
theorem dX12_stepsOver_129 : decode cX12_stepsOver 129 = .ok (.aload_n 0, 1) := by decide +kernel
theorem dX12_stepsOver_130 : decode cX12_stepsOver 130 = .ok (.iload 7, 2) := by decide +kernel
theorem dX12_stepsOver_132 : decode cX12_stepsOver 132 = .ok (.iconst 1, 1) := by decide +kernel
theorem dX12_stepsOver_133 : decode cX12_stepsOver 133 = .ok (.isub, 1) := by decide +kernel
theorem dX12_stepsOver_134 : decode cX12_stepsOver 134 = .ok (.iload 9, 2) := by decide +kernel
theorem dX12_stepsOver_136 : decode cX12_stepsOver 136 = .ok (.iload_n 2, 1) := by decide +kernel
theorem dX12_stepsOver_137 : decode cX12_stepsOver 137 = .ok (.invokevirtual 355, 3) := by decide +kernel
theorem dX12_stepsOver_140 : decode cX12_stepsOver 140 = .ok (.if_icmp .eq 7, 3) := by decide +kernel
theorem dX12_stepsOver_143 : decode cX12_stepsOver 143 = .ok (.iconst 1, 1) := by decide +kernel
theorem dX12_stepsOver_144 : decode cX12_stepsOver 144 = .ok (.goto 4, 3) := by decide +kernel
theorem dX12_stepsOver_147 : decode cX12_stepsOver 147 = .ok (.iconst 0, 1) := by decide +kernel
theorem dX12_stepsOver_148 : decode cX12_stepsOver 148 = .ok (.istore 8, 2) := by decide +kernel
theorem dX12_stepsOver_150 : decode cX12_stepsOver 150 = .ok (.iload 8, 2) := by decide +kernel
theorem dX12_stepsOver_152 : decode cX12_stepsOver 152 = .ok (.ifCond .eq 24, 3) := by decide +kernel
theorem dX12_stepsOver_155 : decode cX12_stepsOver 155 = .ok (.lload 5, 2) := by decide +kernel
theorem dX12_stepsOver_157 : decode cX12_stepsOver 157 = .ok (.aload_n 0, 1) := by decide +kernel
theorem dX12_stepsOver_158 : decode cX12_stepsOver 158 = .ok (.iload 9, 2) := by decide +kernel
theorem dX12_stepsOver_160 : decode cX12_stepsOver 160 = .ok (.aload_n 0, 1) := by decide +kernel
theorem dX12_stepsOver_161 : decode cX12_stepsOver 161 = .ok (.iload 7, 2) := by decide +kernel
theorem dX12_stepsOver_163 : decode cX12_stepsOver 163 = .ok (.iload 9, 2) := by decide +kernel
theorem dX12_stepsOver_165 : decode cX12_stepsOver 165 = .ok (.iload_n 2, 1) := by decide +kernel
theorem dX12_stepsOver_166 : decode cX12_stepsOver 166 = .ok (.invokevirtual 355, 3) := by decide +kernel
theorem dX12_stepsOver_169 : decode cX12_stepsOver 169 = .ok (.invokevirtual 359, 3) := by decide +kernel
theorem dX12_stepsOver_172 : decode cX12_stepsOver 172 = .ok (.i2l, 1) := by decide +kernel
theorem dX12_stepsOver_173 : decode cX12_stepsOver 173 = .ok (.ladd, 1) := by decide +kernel
theorem dX12_stepsOver_174 : decode cX12_stepsOver 174 = .ok (.lstore 5, 2) := by decide +kernel
theorem dX12_stepsOver_176 : decode cX12_stepsOver 176 = .ok (.iinc 9 (-1), 3) := by decide +kernel
theorem dX12_stepsOver_179 : decode cX12_stepsOver 179 = .ok (.goto (-69), 3) := by decide +kernel
theorem dX12_stepsOver_182 : decode cX12_stepsOver 182 = .ok (.iinc 7 1, 3) := by decide +kernel
theorem dX12_stepsOver_185 : decode cX12_stepsOver 185 = .ok (.goto (-101), 3) := by decide +kernel
theorem dX12_stepsOver_188 : decode cX12_stepsOver 188 = .ok (.aload_n 0, 1) := by decide +kernel
theorem dX12_stepsOver_189 : decode cX12_stepsOver 189 = .ok (.iload_n 3, 1) := by decide +kernel
theorem dX12_stepsOver_190 : decode cX12_stepsOver 190 = .ok (.putfield 148, 3) := by decide +kernel
theorem dX12_stepsOver_193 : decode cX12_stepsOver 193 = .ok (.aload_n 0, 1) := by decide +kernel
theorem dX12_stepsOver_194 : decode cX12_stepsOver 194 = .ok (.iload 4, 2) := by decide +kernel
theorem dX12_stepsOver_196 : decode cX12_stepsOver 196 = .ok (.putfield 151, 3) := by decide +kernel
theorem dX12_stepsOver_199 : decode cX12_stepsOver 199 = .ok (.iconst 0, 1) := by decide +kernel
theorem dX12_stepsOver_200 : decode cX12_stepsOver 200 = .ok (.istore 7, 2) := by decide +kernel
theorem dX12_stepsOver_202 : decode cX12_stepsOver 202 = .ok (.iload 7, 2) := by decide +kernel
theorem dX12_stepsOver_204 : decode cX12_stepsOver 204 = .ok (.aload_n 0, 1) := by decide +kernel
theorem dX12_stepsOver_205 : decode cX12_stepsOver 205 = .ok (.getfield 141, 3) := by decide +kernel
theorem dX12_stepsOver_208 : decode cX12_stepsOver 208 = .ok (.if_icmp .ge 37, 3) := by decide +kernel
theorem dX12_stepsOver_211 : decode cX12_stepsOver 211 = .ok (.aload_n 0, 1) := by decide +kernel
theorem dX12_stepsOver_212 : decode cX12_stepsOver 212 = .ok (.getfield 41, 3) := by decide +kernel
theorem dX12_stepsOver_215 : decode cX12_stepsOver 215 = .ok (.iload 7, 2) := by decide +kernel
theorem dX12_stepsOver_217 : decode cX12_stepsOver 217 = .ok (.aload_n 0, 1) := by decide +kernel
theorem dX12_stepsOver_218 : decode cX12_stepsOver 218 = .ok (.getfield 111, 3) := by decide +kernel
theorem dX12_stepsOver_221 : decode cX12_stepsOver 221 = .ok (.iload 7, 2) := by decide +kernel
theorem dX12_stepsOver_223 : decode cX12_stepsOver 223 = .ok (.iaload, 1) := by decide +kernel
theorem dX12_stepsOver_224 : decode cX12_stepsOver 224 = .ok (.iastore, 1) := by decide +kernel
theorem dX12_stepsOver_225 : decode cX12_stepsOver 225 = .ok (.aload_n 0, 1) := by decide +kernel
theorem dX12_stepsOver_226 : decode cX12_stepsOver 226 = .ok (.getfield 44, 3) := by decide +kernel
theorem dX12_stepsOver_229 : decode cX12_stepsOver 229 = .ok (.iload 7, 2) := by decide +kernel
theorem dX12_stepsOver_231 : decode cX12_stepsOver 231 = .ok (.aload_n 0, 1) := by decide +kernel
theorem dX12_stepsOver_232 : decode cX12_stepsOver 232 = .ok (.getfield 114, 3) := by decide +kernel
theorem dX12_stepsOver_235 : decode cX12_stepsOver 235 = .ok (.iload 7, 2) := by decide +kernel
theorem dX12_stepsOver_237 : decode cX12_stepsOver 237 = .ok (.iaload, 1) := by decide +kernel
theorem dX12_stepsOver_238 : decode cX12_stepsOver 238 = .ok (.iastore, 1) := by decide +kernel
theorem dX12_stepsOver_239 : decode cX12_stepsOver 239 = .ok (.iinc 7 1, 3) := by decide +kernel
theorem dX12_stepsOver_242 : decode cX12_stepsOver 242 = .ok (.goto (-40), 3) := by decide +kernel
theorem dX12_stepsOver_245 : decode cX12_stepsOver 245 = .ok (.lload 5, 2) := by decide +kernel
theorem dX12_stepsOver_247 : decode cX12_stepsOver 247 = .ok (.lreturn, 1) := by decide +kernel
theorem dX12_sets_0 : decode cX12_sets 0 = .ok (.aload_n 0, 1) := by decide +kernel
theorem dX12_sets_1 : decode cX12_sets 1 = .ok (.getfield 141, 3) := by decide +kernel
theorem dX12_sets_4 : decode cX12_sets 4 = .ok (.iconst 1, 1) := by decide +kernel
theorem dX12_sets_5 : decode cX12_sets 5 = .ok (.isub, 1) := by decide +kernel
theorem dX12_sets_6 : decode cX12_sets 6 = .ok (.iload_n 1, 1) := by decide +kernel
theorem dX12_sets_7 : decode cX12_sets 7 = .ok (.isub, 1) := by decide +kernel
theorem dX12_sets_8 : decode cX12_sets 8 = .ok (.iconst 2, 1) := by decide +kernel
theorem dX12_sets_9 : decode cX12_sets 9 = .ok (.irem, 1) := by decide +kernel
theorem dX12_sets_10 : decode cX12_sets 10 = .ok (.ifCond .ne 7, 3) := by decide +kernel
theorem dX12_sets_13 : decode cX12_sets 13 = .ok (.iconst 1, 1) := by decide +kernel
theorem dX12_sets_14 : decode cX12_sets 14 = .ok (.goto 4, 3) := by decide +kernel
theorem dX12_sets_17 : decode cX12_sets 17 = .ok (.iconst 0, 1) := by decide +kernel
theorem dX12_sets_18 : decode cX12_sets 18 = .ok (.istore_n 3, 1) := by decide +kernel
theorem dX12_sets_19 : decode cX12_sets 19 = .ok (.aload_n 0, 1) := by decide +kernel
theorem dX12_sets_20 : decode cX12_sets 20 = .ok (.iload_n 1, 1) := by decide +kernel
theorem dX12_sets_21 : decode cX12_sets 21 = .ok (.iload_n 2, 1) := by decide +kernel
theorem dX12_sets_22 : decode cX12_sets 22 = .ok (.iload_n 3, 1) := by decide +kernel
theorem dX12_sets_23 : decode cX12_sets 23 = .ok (.invokevirtual 220, 3) := by decide +kernel
theorem dX12_sets_26 : decode cX12_sets 26 = .ok (.istore 4, 2) := by decide +kernel
theorem dX12_sets_28 : decode cX12_sets 28 = .ok (.iconst 0, 1) := by decide +kernel
theorem dX12_sets_29 : decode cX12_sets 29 = .ok (.istore 5, 2) := by decide +kernel
theorem dX12_sets_31 : decode cX12_sets 31 = .ok (.aload_n 0, 1) := by decide +kernel
theorem dX12_sets_32 : decode cX12_sets 32 = .ok (.iload_n 3, 1) := by decide +kernel
theorem dX12_sets_33 : decode cX12_sets 33 = .ok (.iload_n 1, 1) := by decide +kernel
theorem dX12_sets_34 : decode cX12_sets 34 = .ok (.invokevirtual 213, 3) := by decide +kernel
theorem dX12_sets_37 : decode cX12_sets 37 = .ok (.iinc 5 1, 3) := by decide +kernel
theorem dX12_sets_40 : decode cX12_sets 40 = .ok (.aload_n 0, 1) := by decide +kernel
theorem dX12_sets_41 : decode cX12_sets 41 = .ok (.getfield 154, 3) := by decide +kernel
theorem dX12_sets_44 : decode cX12_sets 44 = .ok (.ifCond .eq (-13), 3) := by decide +kernel
theorem dX12_sets_47 : decode cX12_sets 47 = .ok (.aload_n 0, 1) := by decide +kernel
theorem dX12_sets_48 : decode cX12_sets 48 = .ok (.getfield 148, 3) := by decide +kernel
theorem dX12_sets_51 : decode cX12_sets 51 = .ok (.iload 4, 2) := by decide +kernel
theorem dX12_sets_53 : decode cX12_sets 53 = .ok (.if_icmp .ne (-22), 3) := by decide +kernel
theorem dX12_sets_56 : decode cX12_sets 56 = .ok (.iload 5, 2) := by decide +kernel
theorem dX12_sets_58 : decode cX12_sets 58 = .ok (.ireturn, 1) := by decide +kernel
theorem dX12_triesNow_0 : decode cX12_triesNow 0 = .ok (.iconst 0, 1) := by decide +kernel
theorem dX12_triesNow_1 : decode cX12_triesNow 1 = .ok (.istore_n 1, 1) := by decide +kernel
theorem dX12_triesNow_2 : decode cX12_triesNow 2 = .ok (.iload_n 1, 1) := by decide +kernel
theorem dX12_triesNow_3 : decode cX12_triesNow 3 = .ok (.i2l, 1) := by decide +kernel
theorem dX12_triesNow_4 : decode cX12_triesNow 4 = .ok (.aload_n 0, 1) := by decide +kernel
theorem dX12_triesNow_5 : decode cX12_triesNow 5 = .ok (.getfield 349, 3) := by decide +kernel
theorem dX12_triesNow_8 : decode cX12_triesNow 8 = .ok (.lcmp, 1) := by decide +kernel
theorem dX12_triesNow_9 : decode cX12_triesNow 9 = .ok (.ifCond .ge 71, 3) := by decide +kernel
theorem dX12_triesNow_12 : decode cX12_triesNow 12 = .ok (.iconst 1, 1) := by decide +kernel
theorem dX12_triesNow_13 : decode cX12_triesNow 13 = .ok (.istore_n 2, 1) := by decide +kernel
theorem dX12_triesNow_14 : decode cX12_triesNow 14 = .ok (.iconst 0, 1) := by decide +kernel
theorem dX12_triesNow_15 : decode cX12_triesNow 15 = .ok (.istore_n 3, 1) := by decide +kernel
theorem dX12_triesNow_16 : decode cX12_triesNow 16 = .ok (.iload_n 3, 1) := by decide +kernel
theorem dX12_triesNow_17 : decode cX12_triesNow 17 = .ok (.aload_n 0, 1) := by decide +kernel
theorem dX12_triesNow_18 : decode cX12_triesNow 18 = .ok (.getfield 141, 3) := by decide +kernel
theorem dX12_triesNow_21 : decode cX12_triesNow 21 = .ok (.if_icmp .ge 45, 3) := by decide +kernel
theorem dX12_triesNow_24 : decode cX12_triesNow 24 = .ok (.iload_n 2, 1) := by decide +kernel
theorem dX12_triesNow_25 : decode cX12_triesNow 25 = .ok (.ifCond .eq 33, 3) := by decide +kernel
theorem dX12_triesNow_28 : decode cX12_triesNow 28 = .ok (.aload_n 0, 1) := by decide +kernel
theorem dX12_triesNow_29 : decode cX12_triesNow 29 = .ok (.aload_n 0, 1) := by decide +kernel
theorem dX12_triesNow_30 : decode cX12_triesNow 30 = .ok (.getfield 20, 3) := by decide +kernel
theorem dX12_triesNow_33 : decode cX12_triesNow 33 = .ok (.iload_n 3, 1) := by decide +kernel
theorem dX12_triesNow_34 : decode cX12_triesNow 34 = .ok (.iaload, 1) := by decide +kernel
theorem dX12_triesNow_35 : decode cX12_triesNow 35 = .ok (.aload_n 0, 1) := by decide +kernel
theorem dX12_triesNow_36 : decode cX12_triesNow 36 = .ok (.iload_n 1, 1) := by decide +kernel
theorem dX12_triesNow_37 : decode cX12_triesNow 37 = .ok (.iload_n 3, 1) := by decide +kernel
theorem dX12_triesNow_38 : decode cX12_triesNow 38 = .ok (.iconst 0, 1) := by decide +kernel
theorem dX12_triesNow_39 : decode cX12_triesNow 39 = .ok (.invokevirtual 355, 3) := by decide +kernel
theorem dX12_triesNow_42 : decode cX12_triesNow 42 = .ok (.invokevirtual 158, 3) := by decide +kernel
theorem dX12_triesNow_45 : decode cX12_triesNow 45 = .ok (.aload_n 0, 1) := by decide +kernel
theorem dX12_triesNow_46 : decode cX12_triesNow 46 = .ok (.getfield 26, 3) := by decide +kernel
theorem dX12_triesNow_49 : decode cX12_triesNow 49 = .ok (.iload_n 3, 1) := by decide +kernel
theorem dX12_triesNow_50 : decode cX12_triesNow 50 = .ok (.iaload, 1) := by decide +kernel
theorem dX12_triesNow_51 : decode cX12_triesNow 51 = .ok (.if_icmp .gt 7, 3) := by decide +kernel
theorem dX12_triesNow_54 : decode cX12_triesNow 54 = .ok (.iconst 1, 1) := by decide +kernel
theorem dX12_triesNow_55 : decode cX12_triesNow 55 = .ok (.goto 4, 3) := by decide +kernel
theorem dX12_triesNow_58 : decode cX12_triesNow 58 = .ok (.iconst 0, 1) := by decide +kernel
theorem dX12_triesNow_59 : decode cX12_triesNow 59 = .ok (.istore_n 2, 1) := by decide +kernel
theorem dX12_triesNow_60 : decode cX12_triesNow 60 = .ok (.iinc 3 1, 3) := by decide +kernel
theorem dX12_triesNow_63 : decode cX12_triesNow 63 = .ok (.goto (-47), 3) := by decide +kernel
theorem dX12_triesNow_66 : decode cX12_triesNow 66 = .ok (.iload_n 2, 1) := by decide +kernel
theorem dX12_triesNow_67 : decode cX12_triesNow 67 = .ok (.ifCond .eq 7, 3) := by decide +kernel
theorem dX12_triesNow_70 : decode cX12_triesNow 70 = .ok (.iload_n 1, 1) := by decide +kernel
theorem dX12_triesNow_71 : decode cX12_triesNow 71 = .ok (.iconst 1, 1) := by decide +kernel
theorem dX12_triesNow_72 : decode cX12_triesNow 72 = .ok (.iadd, 1) := by decide +kernel
theorem dX12_triesNow_73 : decode cX12_triesNow 73 = .ok (.ireturn, 1) := by decide +kernel
theorem dX12_triesNow_74 : decode cX12_triesNow 74 = .ok (.iinc 1 1, 3) := by decide +kernel
theorem dX12_triesNow_77 : decode cX12_triesNow 77 = .ok (.goto (-75), 3) := by decide +kernel
theorem dX12_triesNow_80 : decode cX12_triesNow 80 = .ok (.aload_n 0, 1) := by decide +kernel
theorem dX12_triesNow_81 : decode cX12_triesNow 81 = .ok (.getfield 349, 3) := by decide +kernel
theorem dX12_triesNow_84 : decode cX12_triesNow 84 = .ok (.l2i, 1) := by decide +kernel
theorem dX12_triesNow_85 : decode cX12_triesNow 85 = .ok (.ireturn, 1) := by decide +kernel
theorem dX12_seek_0 : decode cX12_seek 0 = .ok (.aload_n 0, 1) := by decide +kernel
theorem dX12_seek_1 : decode cX12_seek 1 = .ok (.iconst 0, 1) := by decide +kernel
theorem dX12_seek_2 : decode cX12_seek 2 = .ok (.putfield 135, 3) := by decide +kernel
theorem dX12_seek_5 : decode cX12_seek 5 = .ok (.aload_n 0, 1) := by decide +kernel
theorem dX12_seek_6 : decode cX12_seek 6 = .ok (.getfield 141, 3) := by decide +kernel
theorem dX12_seek_9 : decode cX12_seek 9 = .ok (.ifCond .eq 12, 3) := by decide +kernel
theorem dX12_seek_12 : decode cX12_seek 12 = .ok (.iload_n 1, 1) := by decide +kernel
theorem dX12_seek_13 : decode cX12_seek 13 = .ok (.iconst 0, 1) := by decide +kernel
theorem dX12_seek_14 : decode cX12_seek 14 = .ok (.iconst 3, 1) := by decide +kernel
theorem dX12_seek_15 : decode cX12_seek 15 = .ok (.invokestatic 189, 3) := by decide +kernel
theorem dX12_seek_18 : decode cX12_seek 18 = .ok (.ifCond .ne 7, 3) := by decide +kernel
theorem dX12_seek_21 : decode cX12_seek 21 = .ok (.ldc2_w 362, 3) := by decide +kernel
theorem dX12_seek_24 : decode cX12_seek 24 = .ok (.lreturn, 1) := by decide +kernel
theorem dX12_seek_25 : decode cX12_seek 25 = .ok (.aload_n 0, 1) := by decide +kernel
theorem dX12_seek_26 : decode cX12_seek 26 = .ok (.invokevirtual 364, 3) := by decide +kernel
theorem dX12_seek_29 : decode cX12_seek 29 = .ok (.ifCond .ne 7, 3) := by decide +kernel
theorem dX12_seek_32 : decode cX12_seek 32 = .ok (.ldc2_w 367, 3) := by decide +kernel
theorem dX12_seek_35 : decode cX12_seek 35 = .ok (.lreturn, 1) := by decide +kernel
theorem dX12_seek_36 : decode cX12_seek 36 = .ok (.iload_n 1, 1) := by decide +kernel
theorem dX12_seek_37 : decode cX12_seek 37 = .ok (.ifCond .ne 10, 3) := by decide +kernel
theorem dX12_seek_40 : decode cX12_seek 40 = .ok (.aload_n 0, 1) := by decide +kernel
theorem dX12_seek_41 : decode cX12_seek 41 = .ok (.getfield 349, 3) := by decide +kernel
theorem dX12_seek_44 : decode cX12_seek 44 = .ok (.goto 38, 3) := by decide +kernel
theorem dX12_seek_47 : decode cX12_seek 47 = .ok (.iload_n 1, 1) := by decide +kernel
theorem dX12_seek_48 : decode cX12_seek 48 = .ok (.iconst 1, 1) := by decide +kernel
theorem dX12_seek_49 : decode cX12_seek 49 = .ok (.if_icmp .ne 11, 3) := by decide +kernel
theorem dX12_seek_52 : decode cX12_seek 52 = .ok (.aload_n 0, 1) := by decide +kernel
theorem dX12_seek_53 : decode cX12_seek 53 = .ok (.invokevirtual 369, 3) := by decide +kernel
theorem dX12_seek_56 : decode cX12_seek 56 = .ok (.i2l, 1) := by decide +kernel
theorem dX12_seek_57 : decode cX12_seek 57 = .ok (.goto 25, 3) := by decide +kernel
theorem dX12_seek_60 : decode cX12_seek 60 = .ok (.aload_n 0, 1) := by decide +kernel
theorem dX12_seek_61 : decode cX12_seek 61 = .ok (.iload_n 1, 1) := by decide +kernel
theorem dX12_seek_62 : decode cX12_seek 62 = .ok (.iconst 2, 1) := by decide +kernel
theorem dX12_seek_63 : decode cX12_seek 63 = .ok (.if_icmp .ne 10, 3) := by decide +kernel
theorem dX12_seek_66 : decode cX12_seek 66 = .ok (.aload_n 0, 1) := by decide +kernel
theorem dX12_seek_67 : decode cX12_seek 67 = .ok (.invokevirtual 369, 3) := by decide +kernel
theorem dX12_seek_70 : decode cX12_seek 70 = .ok (.goto 8, 3) := by decide +kernel
theorem dX12_seek_73 : decode cX12_seek 73 = .ok (.aload_n 0, 1) := by decide +kernel
theorem dX12_seek_74 : decode cX12_seek 74 = .ok (.getfield 349, 3) := by decide +kernel
theorem dX12_seek_77 : decode cX12_seek 77 = .ok (.l2i, 1) := by decide +kernel
theorem dX12_seek_78 : decode cX12_seek 78 = .ok (.iconst 0, 1) := by decide +kernel
theorem dX12_seek_79 : decode cX12_seek 79 = .ok (.invokevirtual 372, 3) := by decide +kernel
theorem dX12_seek_82 : decode cX12_seek 82 = .ok (.lreturn, 1) := by decide +kernel
theorem dX12_best_0 : decode cX12_best 0 = .ok (.aload_n 0, 1) := by decide +kernel
theorem dX12_best_1 : decode cX12_best 1 = .ok (.iconst 0, 1) := by decide +kernel
theorem dX12_best_2 : decode cX12_best 2 = .ok (.putfield 135, 3) := by decide +kernel
theorem dX12_best_5 : decode cX12_best 5 = .ok (.aload_n 0, 1) := by decide +kernel
theorem dX12_best_6 : decode cX12_best 6 = .ok (.getfield 141, 3) := by decide +kernel
theorem dX12_best_9 : decode cX12_best 9 = .ok (.ifCond .eq 12, 3) := by decide +kernel
theorem dX12_best_12 : decode cX12_best 12 = .ok (.iload_n 1, 1) := by decide +kernel
theorem dX12_best_13 : decode cX12_best 13 = .ok (.iconst 0, 1) := by decide +kernel
theorem dX12_best_14 : decode cX12_best 14 = .ok (.iconst 1, 1) := by decide +kernel
theorem dX12_best_15 : decode cX12_best 15 = .ok (.invokestatic 189, 3) := by decide +kernel
theorem dX12_best_18 : decode cX12_best 18 = .ok (.ifCond .ne 7, 3) := by decide +kernel
theorem dX12_best_21 : decode cX12_best 21 = .ok (.ldc2_w 362, 3) := by decide +kernel
theorem dX12_best_24 : decode cX12_best 24 = .ok (.lreturn, 1) := by decide +kernel
theorem dX12_best_25 : decode cX12_best 25 = .ok (.aload_n 0, 1) := by decide +kernel
theorem dX12_best_26 : decode cX12_best 26 = .ok (.invokevirtual 364, 3) := by decide +kernel
theorem dX12_best_29 : decode cX12_best 29 = .ok (.ifCond .ne 7, 3) := by decide +kernel
theorem dX12_best_32 : decode cX12_best 32 = .ok (.ldc2_w 367, 3) := by decide +kernel
theorem dX12_best_35 : decode cX12_best 35 = .ok (.lreturn, 1) := by decide +kernel
theorem dX12_best_36 : decode cX12_best 36 = .ok (.iconst 0, 1) := by decide +kernel
theorem dX12_best_37 : decode cX12_best 37 = .ok (.istore_n 2, 1) := by decide +kernel
theorem dX12_best_38 : decode cX12_best 38 = .ok (.aload_n 0, 1) := by decide +kernel
theorem dX12_best_39 : decode cX12_best 39 = .ok (.aload_n 0, 1) := by decide +kernel
theorem dX12_best_40 : decode cX12_best 40 = .ok (.getfield 349, 3) := by decide +kernel
theorem dX12_best_43 : decode cX12_best 43 = .ok (.l2i, 1) := by decide +kernel
theorem dX12_best_44 : decode cX12_best 44 = .ok (.iconst 0, 1) := by decide +kernel
theorem dX12_best_45 : decode cX12_best 45 = .ok (.invokevirtual 372, 3) := by decide +kernel
theorem dX12_best_48 : decode cX12_best 48 = .ok (.lstore_n 3, 1) := by decide +kernel
theorem dX12_best_49 : decode cX12_best 49 = .ok (.iconst 1, 1) := by decide +kernel
theorem dX12_best_50 : decode cX12_best 50 = .ok (.istore 5, 2) := by decide +kernel
theorem dX12_best_52 : decode cX12_best 52 = .ok (.iload 5, 2) := by decide +kernel
theorem dX12_best_54 : decode cX12_best 54 = .ok (.iconst 1, 1) := by decide +kernel
theorem dX12_best_55 : decode cX12_best 55 = .ok (.aload_n 0, 1) := by decide +kernel
theorem dX12_best_56 : decode cX12_best 56 = .ok (.getfield 141, 3) := by decide +kernel
theorem dX12_best_59 : decode cX12_best 59 = .ok (.ishl, 1) := by decide +kernel
theorem dX12_best_60 : decode cX12_best 60 = .ok (.if_icmp .ge 38, 3) := by decide +kernel
theorem dX12_best_63 : decode cX12_best 63 = .ok (.aload_n 0, 1) := by decide +kernel
theorem dX12_best_64 : decode cX12_best 64 = .ok (.aload_n 0, 1) := by decide +kernel
theorem dX12_best_65 : decode cX12_best 65 = .ok (.getfield 349, 3) := by decide +kernel
theorem dX12_best_68 : decode cX12_best 68 = .ok (.l2i, 1) := by decide +kernel
theorem dX12_best_69 : decode cX12_best 69 = .ok (.iload 5, 2) := by decide +kernel
theorem dX12_best_71 : decode cX12_best 71 = .ok (.invokevirtual 372, 3) := by decide +kernel
theorem dX12_best_74 : decode cX12_best 74 = .ok (.lstore 6, 2) := by decide +kernel
theorem dX12_best_76 : decode cX12_best 76 = .ok (.lload 6, 2) := by decide +kernel
theorem dX12_best_78 : decode cX12_best 78 = .ok (.lload_n 3, 1) := by decide +kernel
theorem dX12_best_79 : decode cX12_best 79 = .ok (.lcmp, 1) := by decide +kernel
theorem dX12_best_80 : decode cX12_best 80 = .ok (.ifCond .lt 6, 3) := by decide +kernel
theorem dX12_best_83 : decode cX12_best 83 = .ok (.goto 9, 3) := by decide +kernel
theorem dX12_best_86 : decode cX12_best 86 = .ok (.lload 6, 2) := by decide +kernel
theorem dX12_best_88 : decode cX12_best 88 = .ok (.lstore_n 3, 1) := by decide +kernel
theorem dX12_best_89 : decode cX12_best 89 = .ok (.iload 5, 2) := by decide +kernel
theorem dX12_best_91 : decode cX12_best 91 = .ok (.istore_n 2, 1) := by decide +kernel
theorem dX12_best_92 : decode cX12_best 92 = .ok (.iinc 5 1, 3) := by decide +kernel
theorem dX12_best_95 : decode cX12_best 95 = .ok (.goto (-43), 3) := by decide +kernel
theorem dX12_best_98 : decode cX12_best 98 = .ok (.iload_n 1, 1) := by decide +kernel
theorem dX12_best_99 : decode cX12_best 99 = .ok (.ifCond .ne 8, 3) := by decide +kernel
theorem dX12_best_102 : decode cX12_best 102 = .ok (.iload_n 2, 1) := by decide +kernel
theorem dX12_best_103 : decode cX12_best 103 = .ok (.i2l, 1) := by decide +kernel
theorem dX12_best_104 : decode cX12_best 104 = .ok (.goto 4, 3) := by decide +kernel
theorem dX12_best_107 : decode cX12_best 107 = .ok (.lload_n 3, 1) := by decide +kernel
theorem dX12_best_108 : decode cX12_best 108 = .ok (.lreturn, 1) := by decide +kernel
theorem dX12_days_0 : decode cX12_days 0 = .ok (.aload_n 0, 1) := by decide +kernel
theorem dX12_days_1 : decode cX12_days 1 = .ok (.iconst 0, 1) := by decide +kernel
theorem dX12_days_2 : decode cX12_days 2 = .ok (.putfield 135, 3) := by decide +kernel
theorem dX12_days_5 : decode cX12_days 5 = .ok (.iload_n 1, 1) := by decide +kernel
theorem dX12_days_6 : decode cX12_days 6 = .ok (.iconst 0, 1) := by decide +kernel
theorem dX12_days_7 : decode cX12_days 7 = .ok (.sipush 999, 3) := by decide +kernel
theorem dX12_days_10 : decode cX12_days 10 = .ok (.invokestatic 189, 3) := by decide +kernel
theorem dX12_days_13 : decode cX12_days 13 = .ok (.ifCond .eq 15, 3) := by decide +kernel
theorem dX12_days_16 : decode cX12_days 16 = .ok (.aload_n 0, 1) := by decide +kernel
theorem dX12_days_17 : decode cX12_days 17 = .ok (.getfield 199, 3) := by decide +kernel
theorem dX12_days_20 : decode cX12_days 20 = .ok (.iload_n 1, 1) := by decide +kernel
theorem dX12_days_21 : decode cX12_days 21 = .ok (.iadd, 1) := by decide +kernel
theorem dX12_days_22 : decode cX12_days 22 = .ok (.sipush 999, 3) := by decide +kernel
theorem dX12_days_25 : decode cX12_days 25 = .ok (.if_icmp .le 5, 3) := by decide +kernel
theorem dX12_days_28 : decode cX12_days 28 = .ok (.iconst (-1), 1) := by decide +kernel
theorem dX12_days_29 : decode cX12_days 29 = .ok (.ireturn, 1) := by decide +kernel
theorem dX12_days_30 : decode cX12_days 30 = .ok (.aload_n 0, 1) := by decide +kernel
theorem dX12_days_31 : decode cX12_days 31 = .ok (.dup, 1) := by decide +kernel
theorem dX12_days_32 : decode cX12_days 32 = .ok (.getfield 199, 3) := by decide +kernel
theorem dX12_days_35 : decode cX12_days 35 = .ok (.iload_n 1, 1) := by decide +kernel
theorem dX12_days_36 : decode cX12_days 36 = .ok (.iadd, 1) := by decide +kernel
theorem dX12_days_37 : decode cX12_days 37 = .ok (.putfield 199, 3) := by decide +kernel
theorem dX12_days_40 : decode cX12_days 40 = .ok (.aload_n 0, 1) := by decide +kernel
theorem dX12_days_41 : decode cX12_days 41 = .ok (.getfield 199, 3) := by decide +kernel
theorem dX12_days_44 : decode cX12_days 44 = .ok (.ireturn, 1) := by decide +kernel
theorem dX12_says_0 : decode cX12_says 0 = .ok (.aload_n 0, 1) := by decide +kernel
theorem dX12_says_1 : decode cX12_says 1 = .ok (.getfield 117, 3) := by decide +kernel
theorem dX12_says_4 : decode cX12_says 4 = .ok (.aload_n 0, 1) := by decide +kernel
theorem dX12_says_5 : decode cX12_says 5 = .ok (.getfield 196, 3) := by decide +kernel
theorem dX12_says_8 : decode cX12_says 8 = .ok (.iload_n 1, 1) := by decide +kernel
theorem dX12_says_9 : decode cX12_says 9 = .ok (.iastore, 1) := by decide +kernel
theorem dX12_says_10 : decode cX12_says 10 = .ok (.aload_n 0, 1) := by decide +kernel
theorem dX12_says_11 : decode cX12_says 11 = .ok (.getfield 120, 3) := by decide +kernel
theorem dX12_says_14 : decode cX12_says 14 = .ok (.aload_n 0, 1) := by decide +kernel
theorem dX12_says_15 : decode cX12_says 15 = .ok (.getfield 196, 3) := by decide +kernel
theorem dX12_says_18 : decode cX12_says 18 = .ok (.aload_n 0, 1) := by decide +kernel
theorem dX12_says_19 : decode cX12_says 19 = .ok (.getfield 199, 3) := by decide +kernel
theorem dX12_says_22 : decode cX12_says 22 = .ok (.iastore, 1) := by decide +kernel
theorem dX12_says_23 : decode cX12_says 23 = .ok (.aload_n 0, 1) := by decide +kernel
theorem dX12_says_24 : decode cX12_says 24 = .ok (.getfield 123, 3) := by decide +kernel
theorem dX12_says_27 : decode cX12_says 27 = .ok (.aload_n 0, 1) := by decide +kernel
theorem dX12_says_28 : decode cX12_says 28 = .ok (.getfield 196, 3) := by decide +kernel
theorem dX12_says_31 : decode cX12_says 31 = .ok (.iload_n 2, 1) := by decide +kernel
theorem dX12_says_32 : decode cX12_says 32 = .ok (.iastore, 1) := by decide +kernel
theorem dX12_says_33 : decode cX12_says 33 = .ok (.aload_n 0, 1) := by decide +kernel
theorem dX12_says_34 : decode cX12_says 34 = .ok (.getfield 126, 3) := by decide +kernel
theorem dX12_says_37 : decode cX12_says 37 = .ok (.aload_n 0, 1) := by decide +kernel
theorem dX12_says_38 : decode cX12_says 38 = .ok (.getfield 196, 3) := by decide +kernel
theorem dX12_says_41 : decode cX12_says 41 = .ok (.iload_n 3, 1) := by decide +kernel
theorem dX12_says_42 : decode cX12_says 42 = .ok (.iastore, 1) := by decide +kernel
theorem dX12_says_43 : decode cX12_says 43 = .ok (.aload_n 0, 1) := by decide +kernel
theorem dX12_says_44 : decode cX12_says 44 = .ok (.getfield 129, 3) := by decide +kernel
theorem dX12_says_47 : decode cX12_says 47 = .ok (.aload_n 0, 1) := by decide +kernel
theorem dX12_says_48 : decode cX12_says 48 = .ok (.getfield 196, 3) := by decide +kernel
theorem dX12_says_51 : decode cX12_says 51 = .ok (.iload 4, 2) := by decide +kernel
theorem dX12_says_53 : decode cX12_says 53 = .ok (.iastore, 1) := by decide +kernel
theorem dX12_says_54 : decode cX12_says 54 = .ok (.aload_n 0, 1) := by decide +kernel
theorem dX12_says_55 : decode cX12_says 55 = .ok (.dup, 1) := by decide +kernel
theorem dX12_says_56 : decode cX12_says 56 = .ok (.getfield 196, 3) := by decide +kernel
theorem dX12_says_59 : decode cX12_says 59 = .ok (.iconst 1, 1) := by decide +kernel
theorem dX12_says_60 : decode cX12_says 60 = .ok (.iadd, 1) := by decide +kernel
theorem dX12_says_61 : decode cX12_says 61 = .ok (.putfield 196, 3) := by decide +kernel
theorem dX12_says_64 : decode cX12_says 64 = .ok (.aload_n 0, 1) := by decide +kernel
theorem dX12_says_65 : decode cX12_says 65 = .ok (.getfield 196, 3) := by decide +kernel
theorem dX12_says_68 : decode cX12_says 68 = .ok (.iconst 1, 1) := by decide +kernel
theorem dX12_says_69 : decode cX12_says 69 = .ok (.isub, 1) := by decide +kernel
theorem dX12_says_70 : decode cX12_says 70 = .ok (.ireturn, 1) := by decide +kernel
theorem dX12_tell_0 : decode cX12_tell 0 = .ok (.aload_n 0, 1) := by decide +kernel
theorem dX12_tell_1 : decode cX12_tell 1 = .ok (.iconst 0, 1) := by decide +kernel
theorem dX12_tell_2 : decode cX12_tell 2 = .ok (.putfield 135, 3) := by decide +kernel
theorem dX12_tell_5 : decode cX12_tell 5 = .ok (.aload_n 0, 1) := by decide +kernel
theorem dX12_tell_6 : decode cX12_tell 6 = .ok (.getfield 196, 3) := by decide +kernel
theorem dX12_tell_9 : decode cX12_tell 9 = .ok (.bipush 80, 2) := by decide +kernel
theorem dX12_tell_11 : decode cX12_tell 11 = .ok (.if_icmp .eq 33, 3) := by decide +kernel
theorem dX12_tell_14 : decode cX12_tell 14 = .ok (.iload_n 1, 1) := by decide +kernel
theorem dX12_tell_15 : decode cX12_tell 15 = .ok (.iconst 0, 1) := by decide +kernel
theorem dX12_tell_16 : decode cX12_tell 16 = .ok (.iconst 5, 1) := by decide +kernel
theorem dX12_tell_17 : decode cX12_tell 17 = .ok (.invokestatic 189, 3) := by decide +kernel
theorem dX12_tell_20 : decode cX12_tell 20 = .ok (.ifCond .eq 24, 3) := by decide +kernel
theorem dX12_tell_23 : decode cX12_tell 23 = .ok (.aload_n 0, 1) := by decide +kernel
theorem dX12_tell_24 : decode cX12_tell 24 = .ok (.iload_n 2, 1) := by decide +kernel
theorem dX12_tell_25 : decode cX12_tell 25 = .ok (.invokevirtual 208, 3) := by decide +kernel
theorem dX12_tell_28 : decode cX12_tell 28 = .ok (.ifCond .eq 16, 3) := by decide +kernel
theorem dX12_tell_31 : decode cX12_tell 31 = .ok (.iload_n 3, 1) := by decide +kernel
theorem dX12_tell_32 : decode cX12_tell 32 = .ok (.iconst (-1), 1) := by decide +kernel
theorem dX12_tell_33 : decode cX12_tell 33 = .ok (.if_icmp .eq 15, 3) := by decide +kernel
theorem dX12_tell_36 : decode cX12_tell 36 = .ok (.aload_n 0, 1) := by decide +kernel
theorem dX12_tell_37 : decode cX12_tell 37 = .ok (.iload_n 3, 1) := by decide +kernel
theorem dX12_tell_38 : decode cX12_tell 38 = .ok (.invokevirtual 205, 3) := by decide +kernel
theorem dX12_tell_41 : decode cX12_tell 41 = .ok (.ifCond .ne 7, 3) := by decide +kernel
theorem dX12_tell_44 : decode cX12_tell 44 = .ok (.iconst (-1), 1) := by decide +kernel
theorem dX12_tell_45 : decode cX12_tell 45 = .ok (.goto 11, 3) := by decide +kernel
theorem dX12_tell_48 : decode cX12_tell 48 = .ok (.aload_n 0, 1) := by decide +kernel
theorem dX12_tell_49 : decode cX12_tell 49 = .ok (.iconst 0, 1) := by decide +kernel
theorem dX12_tell_50 : decode cX12_tell 50 = .ok (.iload_n 1, 1) := by decide +kernel
theorem dX12_tell_51 : decode cX12_tell 51 = .ok (.iload_n 2, 1) := by decide +kernel
theorem dX12_tell_52 : decode cX12_tell 52 = .ok (.iload_n 3, 1) := by decide +kernel
theorem dX12_tell_53 : decode cX12_tell 53 = .ok (.invokevirtual 376, 3) := by decide +kernel
theorem dX12_tell_56 : decode cX12_tell 56 = .ok (.ireturn, 1) := by decide +kernel
theorem dX12_strike_0 : decode cX12_strike 0 = .ok (.aload_n 0, 1) := by decide +kernel
theorem dX12_strike_1 : decode cX12_strike 1 = .ok (.iconst 0, 1) := by decide +kernel
theorem dX12_strike_2 : decode cX12_strike 2 = .ok (.putfield 135, 3) := by decide +kernel
theorem dX12_strike_5 : decode cX12_strike 5 = .ok (.aload_n 0, 1) := by decide +kernel
theorem dX12_strike_6 : decode cX12_strike 6 = .ok (.getfield 196, 3) := by decide +kernel
theorem dX12_strike_9 : decode cX12_strike 9 = .ok (.bipush 80, 2) := by decide +kernel
theorem dX12_strike_11 : decode cX12_strike 11 = .ok (.if_icmp .eq 15, 3) := by decide +kernel
theorem dX12_strike_14 : decode cX12_strike 14 = .ok (.iload_n 1, 1) := by decide +kernel
theorem dX12_strike_15 : decode cX12_strike 15 = .ok (.ifCond .lt 11, 3) := by decide +kernel
theorem dX12_strike_18 : decode cX12_strike 18 = .ok (.iload_n 1, 1) := by decide +kernel
theorem dX12_strike_19 : decode cX12_strike 19 = .ok (.aload_n 0, 1) := by decide +kernel
theorem dX12_strike_20 : decode cX12_strike 20 = .ok (.getfield 196, 3) := by decide +kernel
theorem dX12_strike_23 : decode cX12_strike 23 = .ok (.if_icmp .lt 7, 3) := by decide +kernel
theorem dX12_strike_26 : decode cX12_strike 26 = .ok (.iconst (-1), 1) := by decide +kernel
theorem dX12_strike_27 : decode cX12_strike 27 = .ok (.goto 11, 3) := by decide +kernel
theorem dX12_strike_30 : decode cX12_strike 30 = .ok (.aload_n 0, 1) := by decide +kernel
theorem dX12_strike_31 : decode cX12_strike 31 = .ok (.iconst 1, 1) := by decide +kernel
theorem dX12_strike_32 : decode cX12_strike 32 = .ok (.iload_n 1, 1) := by decide +kernel
theorem dX12_strike_33 : decode cX12_strike 33 = .ok (.iconst 0, 1) := by decide +kernel
theorem dX12_strike_34 : decode cX12_strike 34 = .ok (.iconst 0, 1) := by decide +kernel
theorem dX12_strike_35 : decode cX12_strike 35 = .ok (.invokevirtual 376, 3) := by decide +kernel
theorem dX12_strike_38 : decode cX12_strike 38 = .ok (.ireturn, 1) := by decide +kernel
theorem dX12_gate_0 : decode cX12_gate 0 = .ok (.aload_n 0, 1) := by decide +kernel
theorem dX12_gate_1 : decode cX12_gate 1 = .ok (.iconst 0, 1) := by decide +kernel
theorem dX12_gate_2 : decode cX12_gate 2 = .ok (.putfield 135, 3) := by decide +kernel
theorem dX12_gate_5 : decode cX12_gate 5 = .ok (.aload_n 0, 1) := by decide +kernel
theorem dX12_gate_6 : decode cX12_gate 6 = .ok (.iload_n 1, 1) := by decide +kernel
theorem dX12_gate_7 : decode cX12_gate 7 = .ok (.invokevirtual 208, 3) := by decide +kernel
theorem dX12_gate_10 : decode cX12_gate 10 = .ok (.ifCond .eq 29, 3) := by decide +kernel
theorem dX12_gate_13 : decode cX12_gate 13 = .ok (.iload_n 2, 1) := by decide +kernel
theorem dX12_gate_14 : decode cX12_gate 14 = .ok (.iconst 0, 1) := by decide +kernel
theorem dX12_gate_15 : decode cX12_gate 15 = .ok (.sipush 999, 3) := by decide +kernel
theorem dX12_gate_18 : decode cX12_gate 18 = .ok (.invokestatic 189, 3) := by decide +kernel
theorem dX12_gate_21 : decode cX12_gate 21 = .ok (.ifCond .eq 18, 3) := by decide +kernel
theorem dX12_gate_24 : decode cX12_gate 24 = .ok (.aload_n 0, 1) := by decide +kernel
theorem dX12_gate_25 : decode cX12_gate 25 = .ok (.getfield 50, 3) := by decide +kernel
theorem dX12_gate_28 : decode cX12_gate 28 = .ok (.sipush 1000, 3) := by decide +kernel
theorem dX12_gate_31 : decode cX12_gate 31 = .ok (.iload_n 1, 1) := by decide +kernel
theorem dX12_gate_32 : decode cX12_gate 32 = .ok (.imul, 1) := by decide +kernel
theorem dX12_gate_33 : decode cX12_gate 33 = .ok (.iload_n 2, 1) := by decide +kernel
theorem dX12_gate_34 : decode cX12_gate 34 = .ok (.iadd, 1) := by decide +kernel
theorem dX12_gate_35 : decode cX12_gate 35 = .ok (.iaload, 1) := by decide +kernel
theorem dX12_gate_36 : decode cX12_gate 36 = .ok (.goto 4, 3) := by decide +kernel
theorem dX12_gate_39 : decode cX12_gate 39 = .ok (.iconst (-1), 1) := by decide +kernel
theorem dX12_gate_40 : decode cX12_gate 40 = .ok (.ireturn, 1) := by decide +kernel
theorem dX12_know_0 : decode cX12_know 0 = .ok (.iconst 0, 1) := by decide +kernel
theorem dX12_know_1 : decode cX12_know 1 = .ok (.istore_n 2, 1) := by decide +kernel
theorem dX12_know_2 : decode cX12_know 2 = .ok (.iload_n 2, 1) := by decide +kernel
theorem dX12_know_3 : decode cX12_know 3 = .ok (.aload_n 0, 1) := by decide +kernel
theorem dX12_know_4 : decode cX12_know 4 = .ok (.getfield 196, 3) := by decide +kernel
theorem dX12_know_7 : decode cX12_know 7 = .ok (.if_icmp .ge 30, 3) := by decide +kernel
theorem dX12_know_10 : decode cX12_know 10 = .ok (.aload_n 0, 1) := by decide +kernel
theorem dX12_know_11 : decode cX12_know 11 = .ok (.getfield 132, 3) := by decide +kernel
theorem dX12_know_14 : decode cX12_know 14 = .ok (.iload_n 2, 1) := by decide +kernel
theorem dX12_know_15 : decode cX12_know 15 = .ok (.aload_n 0, 1) := by decide +kernel
theorem dX12_know_16 : decode cX12_know 16 = .ok (.getfield 120, 3) := by decide +kernel
theorem dX12_know_19 : decode cX12_know 19 = .ok (.iload_n 2, 1) := by decide +kernel
theorem dX12_know_20 : decode cX12_know 20 = .ok (.iaload, 1) := by decide +kernel
theorem dX12_know_21 : decode cX12_know 21 = .ok (.iload_n 1, 1) := by decide +kernel
theorem dX12_know_22 : decode cX12_know 22 = .ok (.if_icmp .gt 7, 3) := by decide +kernel
theorem dX12_know_25 : decode cX12_know 25 = .ok (.iconst 1, 1) := by decide +kernel
theorem dX12_know_26 : decode cX12_know 26 = .ok (.goto 4, 3) := by decide +kernel
theorem dX12_know_29 : decode cX12_know 29 = .ok (.iconst 0, 1) := by decide +kernel
theorem dX12_know_30 : decode cX12_know 30 = .ok (.bastore, 1) := by decide +kernel
theorem dX12_know_31 : decode cX12_know 31 = .ok (.iinc 2 1, 3) := by decide +kernel
theorem dX12_know_34 : decode cX12_know 34 = .ok (.goto (-32), 3) := by decide +kernel
theorem dX12_know_37 : decode cX12_know 37 = .ok (.aload_n 0, 1) := by decide +kernel
theorem dX12_know_38 : decode cX12_know 38 = .ok (.getfield 196, 3) := by decide +kernel
theorem dX12_know_41 : decode cX12_know 41 = .ok (.iconst 1, 1) := by decide +kernel
theorem dX12_know_42 : decode cX12_know 42 = .ok (.isub, 1) := by decide +kernel
theorem dX12_know_43 : decode cX12_know 43 = .ok (.istore_n 2, 1) := by decide +kernel
theorem dX12_know_44 : decode cX12_know 44 = .ok (.iload_n 2, 1) := by decide +kernel
theorem dX12_know_45 : decode cX12_know 45 = .ok (.ifCond .lt 40, 3) := by decide +kernel
theorem dX12_know_48 : decode cX12_know 48 = .ok (.aload_n 0, 1) := by decide +kernel
theorem dX12_know_49 : decode cX12_know 49 = .ok (.getfield 117, 3) := by decide +kernel
theorem dX12_know_52 : decode cX12_know 52 = .ok (.iload_n 2, 1) := by decide +kernel
theorem dX12_know_53 : decode cX12_know 53 = .ok (.iaload, 1) := by decide +kernel
theorem dX12_know_54 : decode cX12_know 54 = .ok (.iconst 1, 1) := by decide +kernel
theorem dX12_know_55 : decode cX12_know 55 = .ok (.if_icmp .ne 24, 3) := by decide +kernel
theorem dX12_know_58 : decode cX12_know 58 = .ok (.aload_n 0, 1) := by decide +kernel
theorem dX12_know_59 : decode cX12_know 59 = .ok (.getfield 132, 3) := by decide +kernel
theorem dX12_know_62 : decode cX12_know 62 = .ok (.iload_n 2, 1) := by decide +kernel
theorem dX12_know_63 : decode cX12_know 63 = .ok (.baload, 1) := by decide +kernel
theorem dX12_know_64 : decode cX12_know 64 = .ok (.ifCond .eq 15, 3) := by decide +kernel
theorem dX12_know_67 : decode cX12_know 67 = .ok (.aload_n 0, 1) := by decide +kernel
theorem dX12_know_68 : decode cX12_know 68 = .ok (.getfield 132, 3) := by decide +kernel
theorem dX12_know_71 : decode cX12_know 71 = .ok (.aload_n 0, 1) := by decide +kernel
theorem dX12_know_72 : decode cX12_know 72 = .ok (.getfield 123, 3) := by decide +kernel
theorem dX12_know_75 : decode cX12_know 75 = .ok (.iload_n 2, 1) := by decide +kernel
theorem dX12_know_76 : decode cX12_know 76 = .ok (.iaload, 1) := by decide +kernel
theorem dX12_know_77 : decode cX12_know 77 = .ok (.iconst 0, 1) := by decide +kernel
theorem dX12_know_78 : decode cX12_know 78 = .ok (.bastore, 1) := by decide +kernel
theorem dX12_know_79 : decode cX12_know 79 = .ok (.iinc 2 (-1), 3) := by decide +kernel
theorem dX12_know_82 : decode cX12_know 82 = .ok (.goto (-38), 3) := by decide +kernel
theorem dX12_know_85 : decode cX12_know 85 = .ok (.return_, 1) := by decide +kernel
theorem dX12_knownBy_0 : decode cX12_knownBy 0 = .ok (.iconst 0, 1) := by decide +kernel
theorem dX12_knownBy_1 : decode cX12_knownBy 1 = .ok (.istore_n 3, 1) := by decide +kernel
theorem dX12_knownBy_2 : decode cX12_knownBy 2 = .ok (.iconst 0, 1) := by decide +kernel
theorem dX12_knownBy_3 : decode cX12_knownBy 3 = .ok (.istore 4, 2) := by decide +kernel
theorem dX12_knownBy_5 : decode cX12_knownBy 5 = .ok (.iload 4, 2) := by decide +kernel
theorem dX12_knownBy_7 : decode cX12_knownBy 7 = .ok (.aload_n 0, 1) := by decide +kernel
theorem dX12_knownBy_8 : decode cX12_knownBy 8 = .ok (.getfield 141, 3) := by decide +kernel
theorem dX12_knownBy_11 : decode cX12_knownBy 11 = .ok (.if_icmp .ge 135, 3) := by decide +kernel
theorem dX12_knownBy_14 : decode cX12_knownBy 14 = .ok (.iconst (-1), 1) := by decide +kernel
theorem dX12_knownBy_15 : decode cX12_knownBy 15 = .ok (.istore 5, 2) := by decide +kernel
theorem dX12_knownBy_17 : decode cX12_knownBy 17 = .ok (.iconst 0, 1) := by decide +kernel
theorem dX12_knownBy_18 : decode cX12_knownBy 18 = .ok (.istore 6, 2) := by decide +kernel
theorem dX12_knownBy_20 : decode cX12_knownBy 20 = .ok (.iload 6, 2) := by decide +kernel
theorem dX12_knownBy_22 : decode cX12_knownBy 22 = .ok (.aload_n 0, 1) := by decide +kernel
theorem dX12_knownBy_23 : decode cX12_knownBy 23 = .ok (.getfield 196, 3) := by decide +kernel
theorem dX12_knownBy_26 : decode cX12_knownBy 26 = .ok (.if_icmp .ge 72, 3) := by decide +kernel
theorem dX12_knownBy_29 : decode cX12_knownBy 29 = .ok (.aload_n 0, 1) := by decide +kernel
theorem dX12_knownBy_30 : decode cX12_knownBy 30 = .ok (.getfield 132, 3) := by decide +kernel
theorem dX12_knownBy_33 : decode cX12_knownBy 33 = .ok (.iload 6, 2) := by decide +kernel
theorem dX12_knownBy_35 : decode cX12_knownBy 35 = .ok (.baload, 1) := by decide +kernel
theorem dX12_knownBy_36 : decode cX12_knownBy 36 = .ok (.ifCond .eq 56, 3) := by decide +kernel
theorem dX12_knownBy_39 : decode cX12_knownBy 39 = .ok (.aload_n 0, 1) := by decide +kernel
theorem dX12_knownBy_40 : decode cX12_knownBy 40 = .ok (.getfield 117, 3) := by decide +kernel
theorem dX12_knownBy_43 : decode cX12_knownBy 43 = .ok (.iload 6, 2) := by decide +kernel
theorem dX12_knownBy_45 : decode cX12_knownBy 45 = .ok (.iaload, 1) := by decide +kernel
theorem dX12_knownBy_46 : decode cX12_knownBy 46 = .ok (.ifCond .ne 46, 3) := by decide +kernel
theorem dX12_knownBy_49 : decode cX12_knownBy 49 = .ok (.aload_n 0, 1) := by decide +kernel
theorem dX12_knownBy_50 : decode cX12_knownBy 50 = .ok (.getfield 120, 3) := by decide +kernel
theorem dX12_knownBy_53 : decode cX12_knownBy 53 = .ok (.iload 6, 2) := by decide +kernel
theorem dX12_knownBy_55 : decode cX12_knownBy 55 = .ok (.iaload, 1) := by decide +kernel
theorem dX12_knownBy_56 : decode cX12_knownBy 56 = .ok (.iload_n 2, 1) := by decide +kernel
theorem dX12_knownBy_57 : decode cX12_knownBy 57 = .ok (.if_icmp .gt 35, 3) := by decide +kernel
theorem dX12_knownBy_60 : decode cX12_knownBy 60 = .ok (.aload_n 0, 1) := by decide +kernel
theorem dX12_knownBy_61 : decode cX12_knownBy 61 = .ok (.getfield 123, 3) := by decide +kernel
theorem dX12_knownBy_64 : decode cX12_knownBy 64 = .ok (.iload 6, 2) := by decide +kernel
theorem dX12_knownBy_66 : decode cX12_knownBy 66 = .ok (.iaload, 1) := by decide +kernel
theorem dX12_knownBy_67 : decode cX12_knownBy 67 = .ok (.iload_n 1, 1) := by decide +kernel
theorem dX12_knownBy_68 : decode cX12_knownBy 68 = .ok (.if_icmp .ne 24, 3) := by decide +kernel
theorem dX12_knownBy_71 : decode cX12_knownBy 71 = .ok (.aload_n 0, 1) := by decide +kernel
theorem dX12_knownBy_72 : decode cX12_knownBy 72 = .ok (.getfield 126, 3) := by decide +kernel
theorem dX12_knownBy_75 : decode cX12_knownBy 75 = .ok (.iload 6, 2) := by decide +kernel
theorem dX12_knownBy_77 : decode cX12_knownBy 77 = .ok (.iaload, 1) := by decide +kernel
theorem dX12_knownBy_78 : decode cX12_knownBy 78 = .ok (.iload 4, 2) := by decide +kernel
theorem dX12_knownBy_80 : decode cX12_knownBy 80 = .ok (.if_icmp .ne 12, 3) := by decide +kernel
theorem dX12_knownBy_83 : decode cX12_knownBy 83 = .ok (.aload_n 0, 1) := by decide +kernel
theorem dX12_knownBy_84 : decode cX12_knownBy 84 = .ok (.getfield 129, 3) := by decide +kernel
theorem dX12_knownBy_87 : decode cX12_knownBy 87 = .ok (.iload 6, 2) := by decide +kernel
theorem dX12_knownBy_89 : decode cX12_knownBy 89 = .ok (.iaload, 1) := by decide +kernel
theorem dX12_knownBy_90 : decode cX12_knownBy 90 = .ok (.istore 5, 2) := by decide +kernel
theorem dX12_knownBy_92 : decode cX12_knownBy 92 = .ok (.iinc 6 1, 3) := by decide +kernel
theorem dX12_knownBy_95 : decode cX12_knownBy 95 = .ok (.goto (-75), 3) := by decide +kernel
theorem dX12_knownBy_98 : decode cX12_knownBy 98 = .ok (.iload 5, 2) := by decide +kernel
theorem dX12_knownBy_100 : decode cX12_knownBy 100 = .ok (.iconst (-1), 1) := by decide +kernel
theorem dX12_knownBy_101 : decode cX12_knownBy 101 = .ok (.if_icmp .eq 39, 3) := by decide +kernel
theorem dX12_knownBy_104 : decode cX12_knownBy 104 = .ok (.aload_n 0, 1) := by decide +kernel
theorem dX12_knownBy_105 : decode cX12_knownBy 105 = .ok (.iload 5, 2) := by decide +kernel
theorem dX12_knownBy_107 : decode cX12_knownBy 107 = .ok (.aload_n 0, 1) := by decide +kernel
theorem dX12_knownBy_108 : decode cX12_knownBy 108 = .ok (.getfield 50, 3) := by decide +kernel
theorem dX12_knownBy_111 : decode cX12_knownBy 111 = .ok (.sipush 1000, 3) := by decide +kernel
theorem dX12_knownBy_114 : decode cX12_knownBy 114 = .ok (.iload 4, 2) := by decide +kernel
theorem dX12_knownBy_116 : decode cX12_knownBy 116 = .ok (.imul, 1) := by decide +kernel
theorem dX12_knownBy_117 : decode cX12_knownBy 117 = .ok (.iload_n 2, 1) := by decide +kernel
theorem dX12_knownBy_118 : decode cX12_knownBy 118 = .ok (.iadd, 1) := by decide +kernel
theorem dX12_knownBy_119 : decode cX12_knownBy 119 = .ok (.iaload, 1) := by decide +kernel
theorem dX12_knownBy_120 : decode cX12_knownBy 120 = .ok (.invokevirtual 158, 3) := by decide +kernel
theorem dX12_knownBy_123 : decode cX12_knownBy 123 = .ok (.aload_n 0, 1) := by decide +kernel
theorem dX12_knownBy_124 : decode cX12_knownBy 124 = .ok (.getfield 26, 3) := by decide +kernel
theorem dX12_knownBy_127 : decode cX12_knownBy 127 = .ok (.iload 4, 2) := by decide +kernel
theorem dX12_knownBy_129 : decode cX12_knownBy 129 = .ok (.iaload, 1) := by decide +kernel
theorem dX12_knownBy_130 : decode cX12_knownBy 130 = .ok (.if_icmp .gt 10, 3) := by decide +kernel
theorem dX12_knownBy_133 : decode cX12_knownBy 133 = .ok (.iload_n 3, 1) := by decide +kernel
theorem dX12_knownBy_134 : decode cX12_knownBy 134 = .ok (.iconst 1, 1) := by decide +kernel
theorem dX12_knownBy_135 : decode cX12_knownBy 135 = .ok (.iload 4, 2) := by decide +kernel
theorem dX12_knownBy_137 : decode cX12_knownBy 137 = .ok (.ishl, 1) := by decide +kernel
theorem dX12_knownBy_138 : decode cX12_knownBy 138 = .ok (.ior, 1) := by decide +kernel
theorem dX12_knownBy_139 : decode cX12_knownBy 139 = .ok (.istore_n 3, 1) := by decide +kernel
theorem dX12_knownBy_140 : decode cX12_knownBy 140 = .ok (.iinc 4 1, 3) := by decide +kernel
theorem dX12_knownBy_143 : decode cX12_knownBy 143 = .ok (.goto (-138), 3) := by decide +kernel
theorem dX12_knownBy_146 : decode cX12_knownBy 146 = .ok (.iload_n 3, 1) := by decide +kernel
theorem dX12_knownBy_147 : decode cX12_knownBy 147 = .ok (.ireturn, 1) := by decide +kernel
theorem dX12_areDays_0 : decode cX12_areDays 0 = .ok (.iload_n 1, 1) := by decide +kernel
theorem dX12_areDays_1 : decode cX12_areDays 1 = .ok (.iconst 0, 1) := by decide +kernel
theorem dX12_areDays_2 : decode cX12_areDays 2 = .ok (.sipush 999, 3) := by decide +kernel
theorem dX12_areDays_5 : decode cX12_areDays 5 = .ok (.invokestatic 189, 3) := by decide +kernel
theorem dX12_areDays_8 : decode cX12_areDays 8 = .ok (.ifCond .eq 16, 3) := by decide +kernel
theorem dX12_areDays_11 : decode cX12_areDays 11 = .ok (.iload_n 0, 1) := by decide +kernel
theorem dX12_areDays_12 : decode cX12_areDays 12 = .ok (.iconst 0, 1) := by decide +kernel
theorem dX12_areDays_13 : decode cX12_areDays 13 = .ok (.iload_n 1, 1) := by decide +kernel
theorem dX12_areDays_14 : decode cX12_areDays 14 = .ok (.invokestatic 189, 3) := by decide +kernel
theorem dX12_areDays_17 : decode cX12_areDays 17 = .ok (.ifCond .eq 7, 3) := by decide +kernel
theorem dX12_areDays_20 : decode cX12_areDays 20 = .ok (.iconst 1, 1) := by decide +kernel
theorem dX12_areDays_21 : decode cX12_areDays 21 = .ok (.goto 4, 3) := by decide +kernel
theorem dX12_areDays_24 : decode cX12_areDays 24 = .ok (.iconst 0, 1) := by decide +kernel
theorem dX12_areDays_25 : decode cX12_areDays 25 = .ok (.ireturn, 1) := by decide +kernel
theorem dX12_knows_0 : decode cX12_knows 0 = .ok (.aload_n 0, 1) := by decide +kernel
theorem dX12_knows_1 : decode cX12_knows 1 = .ok (.iconst 0, 1) := by decide +kernel
theorem dX12_knows_2 : decode cX12_knows 2 = .ok (.putfield 135, 3) := by decide +kernel
theorem dX12_knows_5 : decode cX12_knows 5 = .ok (.iload_n 1, 1) := by decide +kernel
theorem dX12_knows_6 : decode cX12_knows 6 = .ok (.iconst 0, 1) := by decide +kernel
theorem dX12_knows_7 : decode cX12_knows 7 = .ok (.iconst 5, 1) := by decide +kernel
theorem dX12_knows_8 : decode cX12_knows 8 = .ok (.invokestatic 189, 3) := by decide +kernel
theorem dX12_knows_11 : decode cX12_knows 11 = .ok (.ifCond .eq 11, 3) := by decide +kernel
theorem dX12_knows_14 : decode cX12_knows 14 = .ok (.iload_n 2, 1) := by decide +kernel
theorem dX12_knows_15 : decode cX12_knows 15 = .ok (.iload_n 3, 1) := by decide +kernel
theorem dX12_knows_16 : decode cX12_knows 16 = .ok (.invokestatic 380, 3) := by decide +kernel
theorem dX12_knows_19 : decode cX12_knows 19 = .ok (.ifCond .ne 5, 3) := by decide +kernel
theorem dX12_knows_22 : decode cX12_knows 22 = .ok (.iconst (-1), 1) := by decide +kernel
theorem dX12_knows_23 : decode cX12_knows 23 = .ok (.ireturn, 1) := by decide +kernel
theorem dX12_knows_24 : decode cX12_knows 24 = .ok (.aload_n 0, 1) := by decide +kernel
theorem dX12_knows_25 : decode cX12_knows 25 = .ok (.iload_n 3, 1) := by decide +kernel
theorem dX12_knows_26 : decode cX12_knows 26 = .ok (.invokevirtual 383, 3) := by decide +kernel
theorem dX12_knows_29 : decode cX12_knows 29 = .ok (.aload_n 0, 1) := by decide +kernel
theorem dX12_knows_30 : decode cX12_knows 30 = .ok (.iload_n 1, 1) := by decide +kernel
theorem dX12_knows_31 : decode cX12_knows 31 = .ok (.iload_n 2, 1) := by decide +kernel
theorem dX12_knows_32 : decode cX12_knows 32 = .ok (.invokevirtual 386, 3) := by decide +kernel
theorem dX12_knows_35 : decode cX12_knows 35 = .ok (.ireturn, 1) := by decide +kernel
theorem dX12_can_0 : decode cX12_can 0 = .ok (.aload_n 0, 1) := by decide +kernel
theorem dX12_can_1 : decode cX12_can 1 = .ok (.iconst 0, 1) := by decide +kernel
theorem dX12_can_2 : decode cX12_can 2 = .ok (.putfield 135, 3) := by decide +kernel
theorem dX12_can_5 : decode cX12_can 5 = .ok (.iload_n 1, 1) := by decide +kernel
theorem dX12_can_6 : decode cX12_can 6 = .ok (.iload_n 2, 1) := by decide +kernel
theorem dX12_can_7 : decode cX12_can 7 = .ok (.invokestatic 380, 3) := by decide +kernel
theorem dX12_can_10 : decode cX12_can 10 = .ok (.ifCond .ne 5, 3) := by decide +kernel
theorem dX12_can_13 : decode cX12_can 13 = .ok (.iconst (-1), 1) := by decide +kernel
theorem dX12_can_14 : decode cX12_can 14 = .ok (.ireturn, 1) := by decide +kernel
theorem dX12_can_15 : decode cX12_can 15 = .ok (.aload_n 0, 1) := by decide +kernel
theorem dX12_can_16 : decode cX12_can 16 = .ok (.iload_n 2, 1) := by decide +kernel
theorem dX12_can_17 : decode cX12_can 17 = .ok (.invokevirtual 383, 3) := by decide +kernel
theorem dX12_can_20 : decode cX12_can 20 = .ok (.iconst 0, 1) := by decide +kernel
theorem dX12_can_21 : decode cX12_can 21 = .ok (.istore_n 3, 1) := by decide +kernel
theorem dX12_can_22 : decode cX12_can 22 = .ok (.bipush 7, 2) := by decide +kernel
theorem dX12_can_24 : decode cX12_can 24 = .ok (.istore 4, 2) := by decide +kernel
theorem dX12_can_26 : decode cX12_can 26 = .ok (.iconst 1, 1) := by decide +kernel
theorem dX12_can_27 : decode cX12_can 27 = .ok (.istore 5, 2) := by decide +kernel
theorem dX12_can_29 : decode cX12_can 29 = .ok (.iload 5, 2) := by decide +kernel
theorem dX12_can_31 : decode cX12_can 31 = .ok (.bipush 64, 2) := by decide +kernel
theorem dX12_can_33 : decode cX12_can 33 = .ok (.if_icmp .ge 96, 3) := by decide +kernel
theorem dX12_can_36 : decode cX12_can 36 = .ok (.iconst 0, 1) := by decide +kernel
theorem dX12_can_37 : decode cX12_can 37 = .ok (.istore 6, 2) := by decide +kernel
theorem dX12_can_39 : decode cX12_can 39 = .ok (.iconst 0, 1) := by decide +kernel
theorem dX12_can_40 : decode cX12_can 40 = .ok (.istore 7, 2) := by decide +kernel
theorem dX12_can_42 : decode cX12_can 42 = .ok (.iconst 0, 1) := by decide +kernel
theorem dX12_can_43 : decode cX12_can 43 = .ok (.istore 8, 2) := by decide +kernel
theorem dX12_can_45 : decode cX12_can 45 = .ok (.iload 8, 2) := by decide +kernel
theorem dX12_can_47 : decode cX12_can 47 = .ok (.bipush 6, 2) := by decide +kernel
theorem dX12_can_49 : decode cX12_can 49 = .ok (.if_icmp .ge 37, 3) := by decide +kernel
theorem dX12_can_52 : decode cX12_can 52 = .ok (.iload 5, 2) := by decide +kernel
theorem dX12_can_54 : decode cX12_can 54 = .ok (.iload 8, 2) := by decide +kernel
theorem dX12_can_56 : decode cX12_can 56 = .ok (.ishr, 1) := by decide +kernel
theorem dX12_can_57 : decode cX12_can 57 = .ok (.iconst 1, 1) := by decide +kernel
theorem dX12_can_58 : decode cX12_can 58 = .ok (.iand, 1) := by decide +kernel
theorem dX12_can_59 : decode cX12_can 59 = .ok (.ifCond .ne 6, 3) := by decide +kernel
theorem dX12_can_62 : decode cX12_can 62 = .ok (.goto 18, 3) := by decide +kernel
theorem dX12_can_65 : decode cX12_can 65 = .ok (.iinc 6 1, 3) := by decide +kernel
theorem dX12_can_68 : decode cX12_can 68 = .ok (.iload 7, 2) := by decide +kernel
theorem dX12_can_70 : decode cX12_can 70 = .ok (.aload_n 0, 1) := by decide +kernel
theorem dX12_can_71 : decode cX12_can 71 = .ok (.iload 8, 2) := by decide +kernel
theorem dX12_can_73 : decode cX12_can 73 = .ok (.iload_n 1, 1) := by decide +kernel
theorem dX12_can_74 : decode cX12_can 74 = .ok (.invokevirtual 386, 3) := by decide +kernel
theorem dX12_can_77 : decode cX12_can 77 = .ok (.ior, 1) := by decide +kernel
theorem dX12_can_78 : decode cX12_can 78 = .ok (.istore 7, 2) := by decide +kernel
theorem dX12_can_80 : decode cX12_can 80 = .ok (.iinc 8 1, 3) := by decide +kernel
theorem dX12_can_83 : decode cX12_can 83 = .ok (.goto (-38), 3) := by decide +kernel
theorem dX12_can_86 : decode cX12_can 86 = .ok (.aload_n 0, 1) := by decide +kernel
theorem dX12_can_87 : decode cX12_can 87 = .ok (.getfield 141, 3) := by decide +kernel
theorem dX12_can_90 : decode cX12_can 90 = .ok (.ifCond .eq 33, 3) := by decide +kernel
theorem dX12_can_93 : decode cX12_can 93 = .ok (.iload 7, 2) := by decide +kernel
theorem dX12_can_95 : decode cX12_can 95 = .ok (.iconst 1, 1) := by decide +kernel
theorem dX12_can_96 : decode cX12_can 96 = .ok (.aload_n 0, 1) := by decide +kernel
theorem dX12_can_97 : decode cX12_can 97 = .ok (.getfield 141, 3) := by decide +kernel
theorem dX12_can_100 : decode cX12_can 100 = .ok (.ishl, 1) := by decide +kernel
theorem dX12_can_101 : decode cX12_can 101 = .ok (.iconst 1, 1) := by decide +kernel
theorem dX12_can_102 : decode cX12_can 102 = .ok (.isub, 1) := by decide +kernel
theorem dX12_can_103 : decode cX12_can 103 = .ok (.if_icmp .ne 20, 3) := by decide +kernel
theorem dX12_can_106 : decode cX12_can 106 = .ok (.iload 6, 2) := by decide +kernel
theorem dX12_can_108 : decode cX12_can 108 = .ok (.iload 4, 2) := by decide +kernel
theorem dX12_can_110 : decode cX12_can 110 = .ok (.if_icmp .lt 6, 3) := by decide +kernel
theorem dX12_can_113 : decode cX12_can 113 = .ok (.goto 10, 3) := by decide +kernel
theorem dX12_can_116 : decode cX12_can 116 = .ok (.iload 6, 2) := by decide +kernel
theorem dX12_can_118 : decode cX12_can 118 = .ok (.istore 4, 2) := by decide +kernel
theorem dX12_can_120 : decode cX12_can 120 = .ok (.iload 5, 2) := by decide +kernel
theorem dX12_can_122 : decode cX12_can 122 = .ok (.istore_n 3, 1) := by decide +kernel
theorem dX12_can_123 : decode cX12_can 123 = .ok (.iinc 5 1, 3) := by decide +kernel
theorem dX12_can_126 : decode cX12_can 126 = .ok (.goto (-97), 3) := by decide +kernel
theorem dX12_can_129 : decode cX12_can 129 = .ok (.iload_n 3, 1) := by decide +kernel
theorem dX12_can_130 : decode cX12_can 130 = .ok (.ireturn, 1) := by decide +kernel
theorem dX12_count_0 : decode cX12_count 0 = .ok (.aload_n 0, 1) := by decide +kernel
theorem dX12_count_1 : decode cX12_count 1 = .ok (.iconst 0, 1) := by decide +kernel
theorem dX12_count_2 : decode cX12_count 2 = .ok (.putfield 135, 3) := by decide +kernel
theorem dX12_count_5 : decode cX12_count 5 = .ok (.iload_n 1, 1) := by decide +kernel
theorem dX12_count_6 : decode cX12_count 6 = .ok (.tableswitch 86 0 7 #[46, 51, 56, 61, 66, 71, 76, 81], 46) := by decide +kernel
theorem dX12_count_52 : decode cX12_count 52 = .ok (.aload_n 0, 1) := by decide +kernel
theorem dX12_count_53 : decode cX12_count 53 = .ok (.getfield 13, 3) := by decide +kernel
theorem dX12_count_56 : decode cX12_count 56 = .ok (.ireturn, 1) := by decide +kernel
theorem dX12_count_57 : decode cX12_count 57 = .ok (.aload_n 0, 1) := by decide +kernel
theorem dX12_count_58 : decode cX12_count 58 = .ok (.getfield 141, 3) := by decide +kernel
theorem dX12_count_61 : decode cX12_count 61 = .ok (.ireturn, 1) := by decide +kernel
theorem dX12_count_62 : decode cX12_count 62 = .ok (.aload_n 0, 1) := by decide +kernel
theorem dX12_count_63 : decode cX12_count 63 = .ok (.getfield 202, 3) := by decide +kernel
theorem dX12_count_66 : decode cX12_count 66 = .ok (.ireturn, 1) := by decide +kernel
theorem dX12_count_67 : decode cX12_count 67 = .ok (.aload_n 0, 1) := by decide +kernel
theorem dX12_count_68 : decode cX12_count 68 = .ok (.getfield 196, 3) := by decide +kernel
theorem dX12_count_71 : decode cX12_count 71 = .ok (.ireturn, 1) := by decide +kernel
theorem dX12_count_72 : decode cX12_count 72 = .ok (.aload_n 0, 1) := by decide +kernel
theorem dX12_count_73 : decode cX12_count 73 = .ok (.getfield 148, 3) := by decide +kernel
theorem dX12_count_76 : decode cX12_count 76 = .ok (.ireturn, 1) := by decide +kernel
theorem dX12_count_77 : decode cX12_count 77 = .ok (.aload_n 0, 1) := by decide +kernel
theorem dX12_count_78 : decode cX12_count 78 = .ok (.getfield 183, 3) := by decide +kernel
theorem dX12_count_81 : decode cX12_count 81 = .ok (.ireturn, 1) := by decide +kernel
theorem dX12_count_82 : decode cX12_count 82 = .ok (.aload_n 0, 1) := by decide +kernel
theorem dX12_count_83 : decode cX12_count 83 = .ok (.getfield 199, 3) := by decide +kernel
theorem dX12_count_86 : decode cX12_count 86 = .ok (.ireturn, 1) := by decide +kernel
theorem dX12_count_87 : decode cX12_count 87 = .ok (.aload_n 0, 1) := by decide +kernel
theorem dX12_count_88 : decode cX12_count 88 = .ok (.getfield 327, 3) := by decide +kernel
theorem dX12_count_91 : decode cX12_count 91 = .ok (.ireturn, 1) := by decide +kernel
theorem dX12_count_92 : decode cX12_count 92 = .ok (.iconst (-1), 1) := by decide +kernel
theorem dX12_count_93 : decode cX12_count 93 = .ok (.ireturn, 1) := by decide +kernel
theorem dJ6_bitCount_0f7a4_0 : decode cJ6_bitCount_0f7a4 0 = .ok (.iload_n 0, 1) := by decide +kernel
theorem dJ6_bitCount_0f7a4_1 : decode cJ6_bitCount_0f7a4 1 = .ok (.iload_n 0, 1) := by decide +kernel
theorem dJ6_bitCount_0f7a4_2 : decode cJ6_bitCount_0f7a4 2 = .ok (.iconst 1, 1) := by decide +kernel
theorem dJ6_bitCount_0f7a4_3 : decode cJ6_bitCount_0f7a4 3 = .ok (.iushr, 1) := by decide +kernel
theorem dJ6_bitCount_0f7a4_4 : decode cJ6_bitCount_0f7a4 4 = .ok (.ldc_w 265, 3) := by decide +kernel
theorem dJ6_bitCount_0f7a4_7 : decode cJ6_bitCount_0f7a4 7 = .ok (.iand, 1) := by decide +kernel
theorem dJ6_bitCount_0f7a4_8 : decode cJ6_bitCount_0f7a4 8 = .ok (.isub, 1) := by decide +kernel
theorem dJ6_bitCount_0f7a4_9 : decode cJ6_bitCount_0f7a4 9 = .ok (.istore_n 0, 1) := by decide +kernel
theorem dJ6_bitCount_0f7a4_10 : decode cJ6_bitCount_0f7a4 10 = .ok (.iload_n 0, 1) := by decide +kernel
theorem dJ6_bitCount_0f7a4_11 : decode cJ6_bitCount_0f7a4 11 = .ok (.ldc_w 266, 3) := by decide +kernel
theorem dJ6_bitCount_0f7a4_14 : decode cJ6_bitCount_0f7a4 14 = .ok (.iand, 1) := by decide +kernel
theorem dJ6_bitCount_0f7a4_15 : decode cJ6_bitCount_0f7a4 15 = .ok (.iload_n 0, 1) := by decide +kernel
theorem dJ6_bitCount_0f7a4_16 : decode cJ6_bitCount_0f7a4 16 = .ok (.iconst 2, 1) := by decide +kernel
theorem dJ6_bitCount_0f7a4_17 : decode cJ6_bitCount_0f7a4 17 = .ok (.iushr, 1) := by decide +kernel
theorem dJ6_bitCount_0f7a4_18 : decode cJ6_bitCount_0f7a4 18 = .ok (.ldc_w 266, 3) := by decide +kernel
theorem dJ6_bitCount_0f7a4_21 : decode cJ6_bitCount_0f7a4 21 = .ok (.iand, 1) := by decide +kernel
theorem dJ6_bitCount_0f7a4_22 : decode cJ6_bitCount_0f7a4 22 = .ok (.iadd, 1) := by decide +kernel
theorem dJ6_bitCount_0f7a4_23 : decode cJ6_bitCount_0f7a4 23 = .ok (.istore_n 0, 1) := by decide +kernel
theorem dJ6_bitCount_0f7a4_24 : decode cJ6_bitCount_0f7a4 24 = .ok (.iload_n 0, 1) := by decide +kernel
theorem dJ6_bitCount_0f7a4_25 : decode cJ6_bitCount_0f7a4 25 = .ok (.iload_n 0, 1) := by decide +kernel
theorem dJ6_bitCount_0f7a4_26 : decode cJ6_bitCount_0f7a4 26 = .ok (.iconst 4, 1) := by decide +kernel
theorem dJ6_bitCount_0f7a4_27 : decode cJ6_bitCount_0f7a4 27 = .ok (.iushr, 1) := by decide +kernel
theorem dJ6_bitCount_0f7a4_28 : decode cJ6_bitCount_0f7a4 28 = .ok (.iadd, 1) := by decide +kernel
theorem dJ6_bitCount_0f7a4_29 : decode cJ6_bitCount_0f7a4 29 = .ok (.ldc_w 267, 3) := by decide +kernel
theorem dJ6_bitCount_0f7a4_32 : decode cJ6_bitCount_0f7a4 32 = .ok (.iand, 1) := by decide +kernel
theorem dJ6_bitCount_0f7a4_33 : decode cJ6_bitCount_0f7a4 33 = .ok (.istore_n 0, 1) := by decide +kernel
theorem dJ6_bitCount_0f7a4_34 : decode cJ6_bitCount_0f7a4 34 = .ok (.iload_n 0, 1) := by decide +kernel
theorem dJ6_bitCount_0f7a4_35 : decode cJ6_bitCount_0f7a4 35 = .ok (.iload_n 0, 1) := by decide +kernel
theorem dJ6_bitCount_0f7a4_36 : decode cJ6_bitCount_0f7a4 36 = .ok (.bipush 8, 2) := by decide +kernel
theorem dJ6_bitCount_0f7a4_38 : decode cJ6_bitCount_0f7a4 38 = .ok (.iushr, 1) := by decide +kernel
theorem dJ6_bitCount_0f7a4_39 : decode cJ6_bitCount_0f7a4 39 = .ok (.iadd, 1) := by decide +kernel
theorem dJ6_bitCount_0f7a4_40 : decode cJ6_bitCount_0f7a4 40 = .ok (.istore_n 0, 1) := by decide +kernel
theorem dJ6_bitCount_0f7a4_41 : decode cJ6_bitCount_0f7a4 41 = .ok (.iload_n 0, 1) := by decide +kernel
theorem dJ6_bitCount_0f7a4_42 : decode cJ6_bitCount_0f7a4 42 = .ok (.iload_n 0, 1) := by decide +kernel
theorem dJ6_bitCount_0f7a4_43 : decode cJ6_bitCount_0f7a4 43 = .ok (.bipush 16, 2) := by decide +kernel
theorem dJ6_bitCount_0f7a4_45 : decode cJ6_bitCount_0f7a4 45 = .ok (.iushr, 1) := by decide +kernel
theorem dJ6_bitCount_0f7a4_46 : decode cJ6_bitCount_0f7a4 46 = .ok (.iadd, 1) := by decide +kernel
theorem dJ6_bitCount_0f7a4_47 : decode cJ6_bitCount_0f7a4 47 = .ok (.istore_n 0, 1) := by decide +kernel
theorem dJ6_bitCount_0f7a4_48 : decode cJ6_bitCount_0f7a4 48 = .ok (.iload_n 0, 1) := by decide +kernel
theorem dJ6_bitCount_0f7a4_49 : decode cJ6_bitCount_0f7a4 49 = .ok (.bipush 63, 2) := by decide +kernel
theorem dJ6_bitCount_0f7a4_51 : decode cJ6_bitCount_0f7a4 51 = .ok (.iand, 1) := by decide +kernel
theorem dJ6_bitCount_0f7a4_52 : decode cJ6_bitCount_0f7a4 52 = .ok (.ireturn, 1) := by decide +kernel
theorem dJ9_floorMod_7cf53_0 : decode cJ9_floorMod_7cf53 0 = .ok (.iload_n 0, 1) := by decide +kernel
theorem dJ9_floorMod_7cf53_1 : decode cJ9_floorMod_7cf53 1 = .ok (.iload_n 1, 1) := by decide +kernel
theorem dJ9_floorMod_7cf53_2 : decode cJ9_floorMod_7cf53 2 = .ok (.irem, 1) := by decide +kernel
theorem dJ9_floorMod_7cf53_3 : decode cJ9_floorMod_7cf53 3 = .ok (.istore_n 2, 1) := by decide +kernel
theorem dJ9_floorMod_7cf53_4 : decode cJ9_floorMod_7cf53 4 = .ok (.iload_n 0, 1) := by decide +kernel
theorem dJ9_floorMod_7cf53_5 : decode cJ9_floorMod_7cf53 5 = .ok (.iload_n 1, 1) := by decide +kernel
theorem dJ9_floorMod_7cf53_6 : decode cJ9_floorMod_7cf53 6 = .ok (.ixor, 1) := by decide +kernel
theorem dJ9_floorMod_7cf53_7 : decode cJ9_floorMod_7cf53 7 = .ok (.ifCond .ge 11, 3) := by decide +kernel
theorem dJ9_floorMod_7cf53_10 : decode cJ9_floorMod_7cf53 10 = .ok (.iload_n 2, 1) := by decide +kernel
theorem dJ9_floorMod_7cf53_11 : decode cJ9_floorMod_7cf53 11 = .ok (.ifCond .eq 7, 3) := by decide +kernel
theorem dJ9_floorMod_7cf53_14 : decode cJ9_floorMod_7cf53 14 = .ok (.iload_n 2, 1) := by decide +kernel
theorem dJ9_floorMod_7cf53_15 : decode cJ9_floorMod_7cf53 15 = .ok (.iload_n 1, 1) := by decide +kernel
theorem dJ9_floorMod_7cf53_16 : decode cJ9_floorMod_7cf53 16 = .ok (.iadd, 1) := by decide +kernel
theorem dJ9_floorMod_7cf53_17 : decode cJ9_floorMod_7cf53 17 = .ok (.ireturn, 1) := by decide +kernel
theorem dJ9_floorMod_7cf53_18 : decode cJ9_floorMod_7cf53 18 = .ok (.iload_n 2, 1) := by decide +kernel
theorem dJ9_floorMod_7cf53_19 : decode cJ9_floorMod_7cf53 19 = .ok (.ireturn, 1) := by decide +kernel
theorem dJ9_abs_0f7a4_0 : decode cJ9_abs_0f7a4 0 = .ok (.iload_n 0, 1) := by decide +kernel
theorem dJ9_abs_0f7a4_1 : decode cJ9_abs_0f7a4 1 = .ok (.ifCond .ge 8, 3) := by decide +kernel
theorem dJ9_abs_0f7a4_4 : decode cJ9_abs_0f7a4 4 = .ok (.iload_n 0, 1) := by decide +kernel
theorem dJ9_abs_0f7a4_5 : decode cJ9_abs_0f7a4 5 = .ok (.ineg, 1) := by decide +kernel
theorem dJ9_abs_0f7a4_6 : decode cJ9_abs_0f7a4 6 = .ok (.goto 4, 3) := by decide +kernel
theorem dJ9_abs_0f7a4_9 : decode cJ9_abs_0f7a4 9 = .ok (.iload_n 0, 1) := by decide +kernel
theorem dJ9_abs_0f7a4_10 : decode cJ9_abs_0f7a4 10 = .ok (.ireturn, 1) := by decide +kernel
theorem dJ9_max_7cf53_0 : decode cJ9_max_7cf53 0 = .ok (.iload_n 0, 1) := by decide +kernel
theorem dJ9_max_7cf53_1 : decode cJ9_max_7cf53 1 = .ok (.iload_n 1, 1) := by decide +kernel
theorem dJ9_max_7cf53_2 : decode cJ9_max_7cf53 2 = .ok (.if_icmp .lt 7, 3) := by decide +kernel
theorem dJ9_max_7cf53_5 : decode cJ9_max_7cf53 5 = .ok (.iload_n 0, 1) := by decide +kernel
theorem dJ9_max_7cf53_6 : decode cJ9_max_7cf53 6 = .ok (.goto 4, 3) := by decide +kernel
theorem dJ9_max_7cf53_9 : decode cJ9_max_7cf53 9 = .ok (.iload_n 1, 1) := by decide +kernel
theorem dJ9_max_7cf53_10 : decode cJ9_max_7cf53 10 = .ok (.ireturn, 1) := by decide +kernel
theorem dJ9_min_7cf53_0 : decode cJ9_min_7cf53 0 = .ok (.iload_n 0, 1) := by decide +kernel
theorem dJ9_min_7cf53_1 : decode cJ9_min_7cf53 1 = .ok (.iload_n 1, 1) := by decide +kernel
theorem dJ9_min_7cf53_2 : decode cJ9_min_7cf53 2 = .ok (.if_icmp .gt 7, 3) := by decide +kernel
theorem dJ9_min_7cf53_5 : decode cJ9_min_7cf53 5 = .ok (.iload_n 0, 1) := by decide +kernel
theorem dJ9_min_7cf53_6 : decode cJ9_min_7cf53 6 = .ok (.goto 4, 3) := by decide +kernel
theorem dJ9_min_7cf53_9 : decode cJ9_min_7cf53 9 = .ok (.iload_n 1, 1) := by decide +kernel
theorem dJ9_min_7cf53_10 : decode cJ9_min_7cf53 10 = .ok (.ireturn, 1) := by decide +kernel
theorem dJ0_length_8abf5_0 : decode cJ0_length_8abf5 0 = .ok (.aload_n 0, 1) := by decide +kernel
theorem dJ0_length_8abf5_1 : decode cJ0_length_8abf5 1 = .ok (.getfield 9, 3) := by decide +kernel
theorem dJ0_length_8abf5_4 : decode cJ0_length_8abf5 4 = .ok (.arraylength, 1) := by decide +kernel
theorem dJ0_length_8abf5_5 : decode cJ0_length_8abf5 5 = .ok (.aload_n 0, 1) := by decide +kernel
theorem dJ0_length_8abf5_6 : decode cJ0_length_8abf5 6 = .ok (.invokevirtual 335, 3) := by decide +kernel
theorem dJ0_length_8abf5_9 : decode cJ0_length_8abf5 9 = .ok (.ishr, 1) := by decide +kernel
theorem dJ0_length_8abf5_10 : decode cJ0_length_8abf5 10 = .ok (.ireturn, 1) := by decide +kernel
theorem dJ0_charAt_5068e_0 : decode cJ0_charAt_5068e 0 = .ok (.aload_n 0, 1) := by decide +kernel
theorem dJ0_charAt_5068e_1 : decode cJ0_charAt_5068e 1 = .ok (.invokevirtual 492, 3) := by decide +kernel
theorem dJ0_charAt_5068e_4 : decode cJ0_charAt_5068e 4 = .ok (.ifCond .eq 12, 3) := by decide +kernel
theorem dJ0_charAt_5068e_7 : decode cJ0_charAt_5068e 7 = .ok (.aload_n 0, 1) := by decide +kernel
theorem dJ0_charAt_5068e_8 : decode cJ0_charAt_5068e 8 = .ok (.getfield 9, 3) := by decide +kernel
theorem dJ0_charAt_5068e_11 : decode cJ0_charAt_5068e 11 = .ok (.iload_n 1, 1) := by decide +kernel
theorem dJ0_charAt_5068e_12 : decode cJ0_charAt_5068e 12 = .ok (.invokestatic 495, 3) := by decide +kernel
theorem dJ0_charAt_5068e_15 : decode cJ0_charAt_5068e 15 = .ok (.ireturn, 1) := by decide +kernel
theorem dJ0_charAt_5068e_16 : decode cJ0_charAt_5068e 16 = .ok (.aload_n 0, 1) := by decide +kernel
theorem dJ0_charAt_5068e_17 : decode cJ0_charAt_5068e 17 = .ok (.getfield 9, 3) := by decide +kernel
theorem dJ0_charAt_5068e_20 : decode cJ0_charAt_5068e 20 = .ok (.iload_n 1, 1) := by decide +kernel
theorem dJ0_charAt_5068e_21 : decode cJ0_charAt_5068e 21 = .ok (.invokestatic 498, 3) := by decide +kernel
theorem dJ0_charAt_5068e_24 : decode cJ0_charAt_5068e 24 = .ok (.ireturn, 1) := by decide +kernel
theorem dJ0_coder_7d493_0 : decode cJ0_coder_7d493 0 = .ok (.getstatic 38, 3) := by decide +kernel
theorem dJ0_coder_7d493_3 : decode cJ0_coder_7d493 3 = .ok (.ifCond .eq 10, 3) := by decide +kernel
theorem dJ0_coder_7d493_6 : decode cJ0_coder_7d493 6 = .ok (.aload_n 0, 1) := by decide +kernel
theorem dJ0_coder_7d493_7 : decode cJ0_coder_7d493 7 = .ok (.getfield 15, 3) := by decide +kernel
theorem dJ0_coder_7d493_10 : decode cJ0_coder_7d493 10 = .ok (.goto 4, 3) := by decide +kernel
theorem dJ0_coder_7d493_13 : decode cJ0_coder_7d493 13 = .ok (.iconst 1, 1) := by decide +kernel
theorem dJ0_coder_7d493_14 : decode cJ0_coder_7d493 14 = .ok (.ireturn, 1) := by decide +kernel
theorem dJ0_isLatin1_aae02_0 : decode cJ0_isLatin1_aae02 0 = .ok (.getstatic 38, 3) := by decide +kernel
theorem dJ0_isLatin1_aae02_3 : decode cJ0_isLatin1_aae02 3 = .ok (.ifCond .eq 14, 3) := by decide +kernel
theorem dJ0_isLatin1_aae02_6 : decode cJ0_isLatin1_aae02 6 = .ok (.aload_n 0, 1) := by decide +kernel
theorem dJ0_isLatin1_aae02_7 : decode cJ0_isLatin1_aae02 7 = .ok (.getfield 15, 3) := by decide +kernel
theorem dJ0_isLatin1_aae02_10 : decode cJ0_isLatin1_aae02 10 = .ok (.ifCond .ne 7, 3) := by decide +kernel
theorem dJ0_isLatin1_aae02_13 : decode cJ0_isLatin1_aae02 13 = .ok (.iconst 1, 1) := by decide +kernel
theorem dJ0_isLatin1_aae02_14 : decode cJ0_isLatin1_aae02 14 = .ok (.goto 4, 3) := by decide +kernel
theorem dJ0_isLatin1_aae02_17 : decode cJ0_isLatin1_aae02 17 = .ok (.iconst 0, 1) := by decide +kernel
theorem dJ0_isLatin1_aae02_18 : decode cJ0_isLatin1_aae02 18 = .ok (.ireturn, 1) := by decide +kernel
theorem dJ0_checkIndex_df160_0 : decode cJ0_checkIndex_df160 0 = .ok (.iload_n 0, 1) := by decide +kernel
theorem dJ0_checkIndex_df160_1 : decode cJ0_checkIndex_df160 1 = .ok (.iload_n 1, 1) := by decide +kernel
theorem dJ0_checkIndex_df160_2 : decode cJ0_checkIndex_df160 2 = .ok (.getstatic 1053, 3) := by decide +kernel
theorem dJ0_checkIndex_df160_5 : decode cJ0_checkIndex_df160 5 = .ok (.invokestatic 1059, 3) := by decide +kernel
theorem dJ0_checkIndex_df160_8 : decode cJ0_checkIndex_df160 8 = .ok (.pop, 1) := by decide +kernel
theorem dJ0_checkIndex_df160_9 : decode cJ0_checkIndex_df160 9 = .ok (.return_, 1) := by decide +kernel
theorem dJ1_charAt_3b067_0 : decode cJ1_charAt_3b067 0 = .ok (.iload_n 1, 1) := by decide +kernel
theorem dJ1_charAt_3b067_1 : decode cJ1_charAt_3b067 1 = .ok (.aload_n 0, 1) := by decide +kernel
theorem dJ1_charAt_3b067_2 : decode cJ1_charAt_3b067 2 = .ok (.arraylength, 1) := by decide +kernel
theorem dJ1_charAt_3b067_3 : decode cJ1_charAt_3b067 3 = .ok (.invokestatic 9, 3) := by decide +kernel
theorem dJ1_charAt_3b067_6 : decode cJ1_charAt_3b067 6 = .ok (.aload_n 0, 1) := by decide +kernel
theorem dJ1_charAt_3b067_7 : decode cJ1_charAt_3b067 7 = .ok (.iload_n 1, 1) := by decide +kernel
theorem dJ1_charAt_3b067_8 : decode cJ1_charAt_3b067 8 = .ok (.baload, 1) := by decide +kernel
theorem dJ1_charAt_3b067_9 : decode cJ1_charAt_3b067 9 = .ok (.sipush 255, 3) := by decide +kernel
theorem dJ1_charAt_3b067_12 : decode cJ1_charAt_3b067 12 = .ok (.iand, 1) := by decide +kernel
theorem dJ1_charAt_3b067_13 : decode cJ1_charAt_3b067 13 = .ok (.i2c, 1) := by decide +kernel
theorem dJ1_charAt_3b067_14 : decode cJ1_charAt_3b067 14 = .ok (.ireturn, 1) := by decide +kernel
theorem dJ2_getChar_3b067_0 : decode cJ2_getChar_3b067 0 = .ok (.getstatic 44, 3) := by decide +kernel
theorem dJ2_getChar_3b067_3 : decode cJ2_getChar_3b067 3 = .ok (.ifCond .ne 25, 3) := by decide +kernel
theorem dJ2_getChar_3b067_6 : decode cJ2_getChar_3b067 6 = .ok (.iload_n 1, 1) := by decide +kernel
theorem dJ2_getChar_3b067_7 : decode cJ2_getChar_3b067 7 = .ok (.ifCond .lt 11, 3) := by decide +kernel
theorem dJ2_getChar_3b067_10 : decode cJ2_getChar_3b067 10 = .ok (.iload_n 1, 1) := by decide +kernel
theorem dJ2_getChar_3b067_11 : decode cJ2_getChar_3b067 11 = .ok (.aload_n 0, 1) := by decide +kernel
theorem dJ2_getChar_3b067_12 : decode cJ2_getChar_3b067 12 = .ok (.invokestatic 48, 3) := by decide +kernel
theorem dJ2_getChar_3b067_15 : decode cJ2_getChar_3b067 15 = .ok (.if_icmp .lt 13, 3) := by decide +kernel
theorem dJ2_getChar_3b067_18 : decode cJ2_getChar_3b067 18 = .ok (.new 52, 3) := by decide +kernel
theorem dJ2_getChar_3b067_21 : decode cJ2_getChar_3b067 21 = .ok (.dup, 1) := by decide +kernel
theorem dJ2_getChar_3b067_22 : decode cJ2_getChar_3b067 22 = .ok (.ldc 54, 2) := by decide +kernel
theorem dJ2_getChar_3b067_24 : decode cJ2_getChar_3b067 24 = .ok (.invokespecial 56, 3) := by decide +kernel
theorem dJ2_getChar_3b067_27 : decode cJ2_getChar_3b067 27 = .ok (.athrow, 1) := by decide +kernel
theorem dJ2_getChar_3b067_28 : decode cJ2_getChar_3b067 28 = .ok (.iload_n 1, 1) := by decide +kernel
theorem dJ2_getChar_3b067_29 : decode cJ2_getChar_3b067 29 = .ok (.iconst 1, 1) := by decide +kernel
theorem dJ2_getChar_3b067_30 : decode cJ2_getChar_3b067 30 = .ok (.ishl, 1) := by decide +kernel
theorem dJ2_getChar_3b067_31 : decode cJ2_getChar_3b067 31 = .ok (.istore_n 1, 1) := by decide +kernel
theorem dJ2_getChar_3b067_32 : decode cJ2_getChar_3b067 32 = .ok (.aload_n 0, 1) := by decide +kernel
theorem dJ2_getChar_3b067_33 : decode cJ2_getChar_3b067 33 = .ok (.iload_n 1, 1) := by decide +kernel
theorem dJ2_getChar_3b067_34 : decode cJ2_getChar_3b067 34 = .ok (.iinc 1 1, 3) := by decide +kernel
theorem dJ2_getChar_3b067_37 : decode cJ2_getChar_3b067 37 = .ok (.baload, 1) := by decide +kernel
theorem dJ2_getChar_3b067_38 : decode cJ2_getChar_3b067 38 = .ok (.sipush 255, 3) := by decide +kernel
theorem dJ2_getChar_3b067_41 : decode cJ2_getChar_3b067 41 = .ok (.iand, 1) := by decide +kernel
theorem dJ2_getChar_3b067_42 : decode cJ2_getChar_3b067 42 = .ok (.getstatic 59, 3) := by decide +kernel
theorem dJ2_getChar_3b067_45 : decode cJ2_getChar_3b067 45 = .ok (.ishl, 1) := by decide +kernel
theorem dJ2_getChar_3b067_46 : decode cJ2_getChar_3b067 46 = .ok (.aload_n 0, 1) := by decide +kernel
theorem dJ2_getChar_3b067_47 : decode cJ2_getChar_3b067 47 = .ok (.iload_n 1, 1) := by decide +kernel
theorem dJ2_getChar_3b067_48 : decode cJ2_getChar_3b067 48 = .ok (.baload, 1) := by decide +kernel
theorem dJ2_getChar_3b067_49 : decode cJ2_getChar_3b067 49 = .ok (.sipush 255, 3) := by decide +kernel
theorem dJ2_getChar_3b067_52 : decode cJ2_getChar_3b067 52 = .ok (.iand, 1) := by decide +kernel
theorem dJ2_getChar_3b067_53 : decode cJ2_getChar_3b067 53 = .ok (.getstatic 63, 3) := by decide +kernel
theorem dJ2_getChar_3b067_56 : decode cJ2_getChar_3b067 56 = .ok (.ishl, 1) := by decide +kernel
theorem dJ2_getChar_3b067_57 : decode cJ2_getChar_3b067 57 = .ok (.ior, 1) := by decide +kernel
theorem dJ2_getChar_3b067_58 : decode cJ2_getChar_3b067 58 = .ok (.i2c, 1) := by decide +kernel
theorem dJ2_getChar_3b067_59 : decode cJ2_getChar_3b067 59 = .ok (.ireturn, 1) := by decide +kernel
theorem dJ2_length_9d52b_0 : decode cJ2_length_9d52b 0 = .ok (.aload_n 0, 1) := by decide +kernel
theorem dJ2_length_9d52b_1 : decode cJ2_length_9d52b 1 = .ok (.arraylength, 1) := by decide +kernel
theorem dJ2_length_9d52b_2 : decode cJ2_length_9d52b 2 = .ok (.iconst 1, 1) := by decide +kernel
theorem dJ2_length_9d52b_3 : decode cJ2_length_9d52b 3 = .ok (.ishr, 1) := by decide +kernel
theorem dJ2_length_9d52b_4 : decode cJ2_length_9d52b 4 = .ok (.ireturn, 1) := by decide +kernel
theorem dJ2_charAt_3b067_0 : decode cJ2_charAt_3b067 0 = .ok (.iload_n 1, 1) := by decide +kernel
theorem dJ2_charAt_3b067_1 : decode cJ2_charAt_3b067 1 = .ok (.aload_n 0, 1) := by decide +kernel
theorem dJ2_charAt_3b067_2 : decode cJ2_charAt_3b067 2 = .ok (.invokestatic 67, 3) := by decide +kernel
theorem dJ2_charAt_3b067_5 : decode cJ2_charAt_3b067 5 = .ok (.aload_n 0, 1) := by decide +kernel
theorem dJ2_charAt_3b067_6 : decode cJ2_charAt_3b067 6 = .ok (.iload_n 1, 1) := by decide +kernel
theorem dJ2_charAt_3b067_7 : decode cJ2_charAt_3b067 7 = .ok (.invokestatic 71, 3) := by decide +kernel
theorem dJ2_charAt_3b067_10 : decode cJ2_charAt_3b067 10 = .ok (.ireturn, 1) := by decide +kernel
theorem dJ2_checkIndex_2214a_0 : decode cJ2_checkIndex_2214a 0 = .ok (.iload_n 0, 1) := by decide +kernel
theorem dJ2_checkIndex_2214a_1 : decode cJ2_checkIndex_2214a 1 = .ok (.aload_n 1, 1) := by decide +kernel
theorem dJ2_checkIndex_2214a_2 : decode cJ2_checkIndex_2214a 2 = .ok (.invokestatic 48, 3) := by decide +kernel
theorem dJ2_checkIndex_2214a_5 : decode cJ2_checkIndex_2214a 5 = .ok (.invokestatic 414, 3) := by decide +kernel
theorem dJ2_checkIndex_2214a_8 : decode cJ2_checkIndex_2214a 8 = .ok (.return_, 1) := by decide +kernel
theorem dJ3_checkIndex_8e157_0 : decode cJ3_checkIndex_8e157 0 = .ok (.iload_n 0, 1) := by decide +kernel
theorem dJ3_checkIndex_8e157_1 : decode cJ3_checkIndex_8e157 1 = .ok (.ifCond .lt 8, 3) := by decide +kernel
theorem dJ3_checkIndex_8e157_4 : decode cJ3_checkIndex_8e157 4 = .ok (.iload_n 0, 1) := by decide +kernel
theorem dJ3_checkIndex_8e157_5 : decode cJ3_checkIndex_8e157 5 = .ok (.iload_n 1, 1) := by decide +kernel
theorem dJ3_checkIndex_8e157_6 : decode cJ3_checkIndex_8e157 6 = .ok (.if_icmp .lt 10, 3) := by decide +kernel
theorem dJ3_checkIndex_8e157_9 : decode cJ3_checkIndex_8e157 9 = .ok (.aload_n 2, 1) := by decide +kernel
theorem dJ3_checkIndex_8e157_10 : decode cJ3_checkIndex_8e157 10 = .ok (.iload_n 0, 1) := by decide +kernel
theorem dJ3_checkIndex_8e157_11 : decode cJ3_checkIndex_8e157 11 = .ok (.iload_n 1, 1) := by decide +kernel
theorem dJ3_checkIndex_8e157_12 : decode cJ3_checkIndex_8e157 12 = .ok (.invokestatic 95, 3) := by decide +kernel
theorem dJ3_checkIndex_8e157_15 : decode cJ3_checkIndex_8e157 15 = .ok (.athrow, 1) := by decide +kernel
theorem dJ3_checkIndex_8e157_16 : decode cJ3_checkIndex_8e157 16 = .ok (.iload_n 0, 1) := by decide +kernel
theorem dJ3_checkIndex_8e157_17 : decode cJ3_checkIndex_8e157 17 = .ok (.ireturn, 1) := by decide +kernel
theorem dL_look_0 : decode cL_look 0 = .ok (.aload_n 3, 1) := by decide +kernel
theorem dL_look_1 : decode cL_look 1 = .ok (.iconst 0, 1) := by decide +kernel
theorem dL_look_2 : decode cL_look 2 = .ok (.aload_n 0, 1) := by decide +kernel
theorem dL_look_3 : decode cL_look 3 = .ok (.iload_n 1, 1) := by decide +kernel
theorem dL_look_4 : decode cL_look 4 = .ok (.iload_n 2, 1) := by decide +kernel
theorem dL_look_5 : decode cL_look 5 = .ok (.invokevirtual 7, 3) := by decide +kernel
theorem dL_look_8 : decode cL_look 8 = .ok (.i2l, 1) := by decide +kernel
theorem dL_look_9 : decode cL_look 9 = .ok (.lastore, 1) := by decide +kernel
theorem dL_look_10 : decode cL_look 10 = .ok (.goto 11, 3) := by decide +kernel
theorem dL_look_13 : decode cL_look 13 = .ok (.astore 4, 2) := by decide +kernel
theorem dL_look_15 : decode cL_look 15 = .ok (.iconst 1, 1) := by decide +kernel
theorem dL_look_16 : decode cL_look 16 = .ok (.ireturn, 1) := by decide +kernel
theorem dL_look_17 : decode cL_look 17 = .ok (.astore 4, 2) := by decide +kernel
theorem dL_look_19 : decode cL_look 19 = .ok (.iconst 2, 1) := by decide +kernel
theorem dL_look_20 : decode cL_look 20 = .ok (.ireturn, 1) := by decide +kernel
theorem dL_look_21 : decode cL_look 21 = .ok (.iconst 0, 1) := by decide +kernel
theorem dL_look_22 : decode cL_look 22 = .ok (.ireturn, 1) := by decide +kernel
theorem dL_law_0 : decode cL_law 0 = .ok (.new 8, 3) := by decide +kernel
theorem dL_law_3 : decode cL_law 3 = .ok (.dup, 1) := by decide +kernel
theorem dL_law_4 : decode cL_law 4 = .ok (.invokespecial 17, 3) := by decide +kernel
theorem dL_law_7 : decode cL_law 7 = .ok (.astore_n 1, 1) := by decide +kernel
theorem dL_law_8 : decode cL_law 8 = .ok (.new 18, 3) := by decide +kernel
theorem dL_law_11 : decode cL_law 11 = .ok (.dup, 1) := by decide +kernel
theorem dL_law_12 : decode cL_law 12 = .ok (.invokespecial 20, 3) := by decide +kernel
theorem dL_law_15 : decode cL_law 15 = .ok (.astore_n 2, 1) := by decide +kernel
theorem dL_law_16 : decode cL_law 16 = .ok (.iconst 1, 1) := by decide +kernel
theorem dL_law_17 : decode cL_law 17 = .ok (.newarray .long, 2) := by decide +kernel
theorem dL_law_19 : decode cL_law 19 = .ok (.astore_n 3, 1) := by decide +kernel
theorem dL_law_20 : decode cL_law 20 = .ok (.iconst 0, 1) := by decide +kernel
theorem dL_law_21 : decode cL_law 21 = .ok (.istore 4, 2) := by decide +kernel
theorem dL_law_23 : decode cL_law 23 = .ok (.iload 4, 2) := by decide +kernel
theorem dL_law_25 : decode cL_law 25 = .ok (.aload_n 0, 1) := by decide +kernel
theorem dL_law_26 : decode cL_law 26 = .ok (.arraylength, 1) := by decide +kernel
theorem dL_law_27 : decode cL_law 27 = .ok (.bipush 8, 2) := by decide +kernel
theorem dL_law_29 : decode cL_law 29 = .ok (.isub, 1) := by decide +kernel
theorem dL_law_30 : decode cL_law 30 = .ok (.if_icmp .gt 1090, 3) := by decide +kernel
theorem dL_law_33 : decode cL_law 33 = .ok (.aload_n 0, 1) := by decide +kernel
theorem dL_law_34 : decode cL_law 34 = .ok (.iload 4, 2) := by decide +kernel
theorem dL_law_36 : decode cL_law 36 = .ok (.iaload, 1) := by decide +kernel
theorem dL_law_37 : decode cL_law 37 = .ok (.bipush 31, 2) := by decide +kernel
theorem dL_law_39 : decode cL_law 39 = .ok (.iand, 1) := by decide +kernel
theorem dL_law_40 : decode cL_law 40 = .ok (.tableswitch 1074 0 26 #[124, 197, 222, 247, 272, 373, 410, 435, 475, 488, 501, 526, 551, 604, 641, 678, 703, 740, 777, 802, 827, 852, 901, 926, 963, 1012, 1049], 124) := by decide +kernel
theorem dL_law_164 : decode cL_law 164 = .ok (.aload_n 1, 1) := by decide +kernel
theorem dL_law_165 : decode cL_law 165 = .ok (.aload_n 0, 1) := by decide +kernel
theorem dL_law_166 : decode cL_law 166 = .ok (.iload 4, 2) := by decide +kernel
theorem dL_law_168 : decode cL_law 168 = .ok (.iconst 1, 1) := by decide +kernel
theorem dL_law_169 : decode cL_law 169 = .ok (.iadd, 1) := by decide +kernel
theorem dL_law_170 : decode cL_law 170 = .ok (.iaload, 1) := by decide +kernel
theorem dL_law_171 : decode cL_law 171 = .ok (.aload_n 0, 1) := by decide +kernel
theorem dL_law_172 : decode cL_law 172 = .ok (.iload 4, 2) := by decide +kernel
theorem dL_law_174 : decode cL_law 174 = .ok (.iconst 2, 1) := by decide +kernel
theorem dL_law_175 : decode cL_law 175 = .ok (.iadd, 1) := by decide +kernel
theorem dL_law_176 : decode cL_law 176 = .ok (.iaload, 1) := by decide +kernel
theorem dL_law_177 : decode cL_law 177 = .ok (.aload_n 0, 1) := by decide +kernel
theorem dL_law_178 : decode cL_law 178 = .ok (.iload 4, 2) := by decide +kernel
theorem dL_law_180 : decode cL_law 180 = .ok (.iconst 3, 1) := by decide +kernel
theorem dL_law_181 : decode cL_law 181 = .ok (.iadd, 1) := by decide +kernel
theorem dL_law_182 : decode cL_law 182 = .ok (.iaload, 1) := by decide +kernel
theorem dL_law_183 : decode cL_law 183 = .ok (.aload_n 0, 1) := by decide +kernel
theorem dL_law_184 : decode cL_law 184 = .ok (.iload 4, 2) := by decide +kernel
theorem dL_law_186 : decode cL_law 186 = .ok (.iconst 4, 1) := by decide +kernel
theorem dL_law_187 : decode cL_law 187 = .ok (.iadd, 1) := by decide +kernel
theorem dL_law_188 : decode cL_law 188 = .ok (.iaload, 1) := by decide +kernel
theorem dL_law_189 : decode cL_law 189 = .ok (.aload_n 0, 1) := by decide +kernel
theorem dL_law_190 : decode cL_law 190 = .ok (.iload 4, 2) := by decide +kernel
theorem dL_law_192 : decode cL_law 192 = .ok (.iconst 5, 1) := by decide +kernel
theorem dL_law_193 : decode cL_law 193 = .ok (.iadd, 1) := by decide +kernel
theorem dL_law_194 : decode cL_law 194 = .ok (.iaload, 1) := by decide +kernel
theorem dL_law_195 : decode cL_law 195 = .ok (.invokevirtual 21, 3) := by decide +kernel
theorem dL_law_198 : decode cL_law 198 = .ok (.pop, 1) := by decide +kernel
theorem dL_law_199 : decode cL_law 199 = .ok (.aload_n 2, 1) := by decide +kernel
theorem dL_law_200 : decode cL_law 200 = .ok (.aload_n 0, 1) := by decide +kernel
theorem dL_law_201 : decode cL_law 201 = .ok (.iload 4, 2) := by decide +kernel
theorem dL_law_203 : decode cL_law 203 = .ok (.iconst 1, 1) := by decide +kernel
theorem dL_law_204 : decode cL_law 204 = .ok (.iadd, 1) := by decide +kernel
theorem dL_law_205 : decode cL_law 205 = .ok (.iaload, 1) := by decide +kernel
theorem dL_law_206 : decode cL_law 206 = .ok (.aload_n 0, 1) := by decide +kernel
theorem dL_law_207 : decode cL_law 207 = .ok (.iload 4, 2) := by decide +kernel
theorem dL_law_209 : decode cL_law 209 = .ok (.iconst 2, 1) := by decide +kernel
theorem dL_law_210 : decode cL_law 210 = .ok (.iadd, 1) := by decide +kernel
theorem dL_law_211 : decode cL_law 211 = .ok (.iaload, 1) := by decide +kernel
theorem dL_law_212 : decode cL_law 212 = .ok (.aload_n 0, 1) := by decide +kernel
theorem dL_law_213 : decode cL_law 213 = .ok (.iload 4, 2) := by decide +kernel
theorem dL_law_215 : decode cL_law 215 = .ok (.iconst 3, 1) := by decide +kernel
theorem dL_law_216 : decode cL_law 216 = .ok (.iadd, 1) := by decide +kernel
theorem dL_law_217 : decode cL_law 217 = .ok (.iaload, 1) := by decide +kernel
theorem dL_law_218 : decode cL_law 218 = .ok (.aload_n 0, 1) := by decide +kernel
theorem dL_law_219 : decode cL_law 219 = .ok (.iload 4, 2) := by decide +kernel
theorem dL_law_221 : decode cL_law 221 = .ok (.iconst 4, 1) := by decide +kernel
theorem dL_law_222 : decode cL_law 222 = .ok (.iadd, 1) := by decide +kernel
theorem dL_law_223 : decode cL_law 223 = .ok (.iaload, 1) := by decide +kernel
theorem dL_law_224 : decode cL_law 224 = .ok (.aload_n 0, 1) := by decide +kernel
theorem dL_law_225 : decode cL_law 225 = .ok (.iload 4, 2) := by decide +kernel
theorem dL_law_227 : decode cL_law 227 = .ok (.iconst 5, 1) := by decide +kernel
theorem dL_law_228 : decode cL_law 228 = .ok (.iadd, 1) := by decide +kernel
theorem dL_law_229 : decode cL_law 229 = .ok (.iaload, 1) := by decide +kernel
theorem dL_law_230 : decode cL_law 230 = .ok (.invokevirtual 25, 3) := by decide +kernel
theorem dL_law_233 : decode cL_law 233 = .ok (.pop, 1) := by decide +kernel
theorem dL_law_234 : decode cL_law 234 = .ok (.goto 880, 3) := by decide +kernel
theorem dL_law_237 : decode cL_law 237 = .ok (.aload_n 1, 1) := by decide +kernel
theorem dL_law_238 : decode cL_law 238 = .ok (.aload_n 0, 1) := by decide +kernel
theorem dL_law_239 : decode cL_law 239 = .ok (.iload 4, 2) := by decide +kernel
theorem dL_law_241 : decode cL_law 241 = .ok (.iconst 1, 1) := by decide +kernel
theorem dL_law_242 : decode cL_law 242 = .ok (.iadd, 1) := by decide +kernel
theorem dL_law_243 : decode cL_law 243 = .ok (.iaload, 1) := by decide +kernel
theorem dL_law_244 : decode cL_law 244 = .ok (.invokevirtual 26, 3) := by decide +kernel
theorem dL_law_247 : decode cL_law 247 = .ok (.pop, 1) := by decide +kernel
theorem dL_law_248 : decode cL_law 248 = .ok (.aload_n 2, 1) := by decide +kernel
theorem dL_law_249 : decode cL_law 249 = .ok (.aload_n 0, 1) := by decide +kernel
theorem dL_law_250 : decode cL_law 250 = .ok (.iload 4, 2) := by decide +kernel
theorem dL_law_252 : decode cL_law 252 = .ok (.iconst 1, 1) := by decide +kernel
theorem dL_law_253 : decode cL_law 253 = .ok (.iadd, 1) := by decide +kernel
theorem dL_law_254 : decode cL_law 254 = .ok (.iaload, 1) := by decide +kernel
theorem dL_law_255 : decode cL_law 255 = .ok (.invokevirtual 30, 3) := by decide +kernel
theorem dL_law_258 : decode cL_law 258 = .ok (.pop, 1) := by decide +kernel
theorem dL_law_259 : decode cL_law 259 = .ok (.goto 855, 3) := by decide +kernel
theorem dL_law_262 : decode cL_law 262 = .ok (.aload_n 1, 1) := by decide +kernel
theorem dL_law_263 : decode cL_law 263 = .ok (.aload_n 0, 1) := by decide +kernel
theorem dL_law_264 : decode cL_law 264 = .ok (.iload 4, 2) := by decide +kernel
theorem dL_law_266 : decode cL_law 266 = .ok (.iconst 1, 1) := by decide +kernel
theorem dL_law_267 : decode cL_law 267 = .ok (.iadd, 1) := by decide +kernel
theorem dL_law_268 : decode cL_law 268 = .ok (.iaload, 1) := by decide +kernel
theorem dL_law_269 : decode cL_law 269 = .ok (.invokevirtual 31, 3) := by decide +kernel
theorem dL_law_272 : decode cL_law 272 = .ok (.pop, 1) := by decide +kernel
theorem dL_law_273 : decode cL_law 273 = .ok (.aload_n 2, 1) := by decide +kernel
theorem dL_law_274 : decode cL_law 274 = .ok (.aload_n 0, 1) := by decide +kernel
theorem dL_law_275 : decode cL_law 275 = .ok (.iload 4, 2) := by decide +kernel
theorem dL_law_277 : decode cL_law 277 = .ok (.iconst 1, 1) := by decide +kernel
theorem dL_law_278 : decode cL_law 278 = .ok (.iadd, 1) := by decide +kernel
theorem dL_law_279 : decode cL_law 279 = .ok (.iaload, 1) := by decide +kernel
theorem dL_law_280 : decode cL_law 280 = .ok (.invokevirtual 34, 3) := by decide +kernel
theorem dL_law_283 : decode cL_law 283 = .ok (.pop, 1) := by decide +kernel
theorem dL_law_284 : decode cL_law 284 = .ok (.goto 830, 3) := by decide +kernel
theorem dL_law_287 : decode cL_law 287 = .ok (.aload_n 1, 1) := by decide +kernel
theorem dL_law_288 : decode cL_law 288 = .ok (.aload_n 0, 1) := by decide +kernel
theorem dL_law_289 : decode cL_law 289 = .ok (.iload 4, 2) := by decide +kernel
theorem dL_law_291 : decode cL_law 291 = .ok (.iconst 1, 1) := by decide +kernel
theorem dL_law_292 : decode cL_law 292 = .ok (.iadd, 1) := by decide +kernel
theorem dL_law_293 : decode cL_law 293 = .ok (.iaload, 1) := by decide +kernel
theorem dL_law_294 : decode cL_law 294 = .ok (.invokevirtual 35, 3) := by decide +kernel
theorem dL_law_297 : decode cL_law 297 = .ok (.pop, 1) := by decide +kernel
theorem dL_law_298 : decode cL_law 298 = .ok (.aload_n 2, 1) := by decide +kernel
theorem dL_law_299 : decode cL_law 299 = .ok (.aload_n 0, 1) := by decide +kernel
theorem dL_law_300 : decode cL_law 300 = .ok (.iload 4, 2) := by decide +kernel
theorem dL_law_302 : decode cL_law 302 = .ok (.iconst 1, 1) := by decide +kernel
theorem dL_law_303 : decode cL_law 303 = .ok (.iadd, 1) := by decide +kernel
theorem dL_law_304 : decode cL_law 304 = .ok (.iaload, 1) := by decide +kernel
theorem dL_law_305 : decode cL_law 305 = .ok (.invokevirtual 39, 3) := by decide +kernel
theorem dL_law_308 : decode cL_law 308 = .ok (.pop, 1) := by decide +kernel
theorem dL_law_309 : decode cL_law 309 = .ok (.goto 805, 3) := by decide +kernel
theorem dL_law_312 : decode cL_law 312 = .ok (.aload_n 1, 1) := by decide +kernel
theorem dL_law_313 : decode cL_law 313 = .ok (.aload_n 0, 1) := by decide +kernel
theorem dL_law_314 : decode cL_law 314 = .ok (.iload 4, 2) := by decide +kernel
theorem dL_law_316 : decode cL_law 316 = .ok (.iconst 1, 1) := by decide +kernel
theorem dL_law_317 : decode cL_law 317 = .ok (.iadd, 1) := by decide +kernel
theorem dL_law_318 : decode cL_law 318 = .ok (.iaload, 1) := by decide +kernel
theorem dL_law_319 : decode cL_law 319 = .ok (.aload_n 0, 1) := by decide +kernel
theorem dL_law_320 : decode cL_law 320 = .ok (.iload 4, 2) := by decide +kernel
theorem dL_law_322 : decode cL_law 322 = .ok (.iconst 2, 1) := by decide +kernel
theorem dL_law_323 : decode cL_law 323 = .ok (.iadd, 1) := by decide +kernel
theorem dL_law_324 : decode cL_law 324 = .ok (.iaload, 1) := by decide +kernel
theorem dL_law_325 : decode cL_law 325 = .ok (.aload_n 0, 1) := by decide +kernel
theorem dL_law_326 : decode cL_law 326 = .ok (.iload 4, 2) := by decide +kernel
theorem dL_law_328 : decode cL_law 328 = .ok (.iconst 3, 1) := by decide +kernel
theorem dL_law_329 : decode cL_law 329 = .ok (.iadd, 1) := by decide +kernel
theorem dL_law_330 : decode cL_law 330 = .ok (.iaload, 1) := by decide +kernel
theorem dL_law_331 : decode cL_law 331 = .ok (.aload_n 0, 1) := by decide +kernel
theorem dL_law_332 : decode cL_law 332 = .ok (.iload 4, 2) := by decide +kernel
theorem dL_law_334 : decode cL_law 334 = .ok (.iconst 4, 1) := by decide +kernel
theorem dL_law_335 : decode cL_law 335 = .ok (.iadd, 1) := by decide +kernel
theorem dL_law_336 : decode cL_law 336 = .ok (.iaload, 1) := by decide +kernel
theorem dL_law_337 : decode cL_law 337 = .ok (.aload_n 0, 1) := by decide +kernel
theorem dL_law_338 : decode cL_law 338 = .ok (.iload 4, 2) := by decide +kernel
theorem dL_law_340 : decode cL_law 340 = .ok (.iconst 5, 1) := by decide +kernel
theorem dL_law_341 : decode cL_law 341 = .ok (.iadd, 1) := by decide +kernel
theorem dL_law_342 : decode cL_law 342 = .ok (.iaload, 1) := by decide +kernel
theorem dL_law_343 : decode cL_law 343 = .ok (.aload_n 0, 1) := by decide +kernel
theorem dL_law_344 : decode cL_law 344 = .ok (.iload 4, 2) := by decide +kernel
theorem dL_law_346 : decode cL_law 346 = .ok (.bipush 6, 2) := by decide +kernel
theorem dL_law_348 : decode cL_law 348 = .ok (.iadd, 1) := by decide +kernel
theorem dL_law_349 : decode cL_law 349 = .ok (.iaload, 1) := by decide +kernel
theorem dL_law_350 : decode cL_law 350 = .ok (.aload_n 0, 1) := by decide +kernel
theorem dL_law_351 : decode cL_law 351 = .ok (.iload 4, 2) := by decide +kernel
theorem dL_law_353 : decode cL_law 353 = .ok (.bipush 7, 2) := by decide +kernel
theorem dL_law_355 : decode cL_law 355 = .ok (.iadd, 1) := by decide +kernel
theorem dL_law_356 : decode cL_law 356 = .ok (.iaload, 1) := by decide +kernel
theorem dL_law_357 : decode cL_law 357 = .ok (.invokevirtual 40, 3) := by decide +kernel
theorem dL_law_360 : decode cL_law 360 = .ok (.pop, 1) := by decide +kernel
theorem dL_law_361 : decode cL_law 361 = .ok (.aload_n 2, 1) := by decide +kernel
theorem dL_law_362 : decode cL_law 362 = .ok (.aload_n 0, 1) := by decide +kernel
theorem dL_law_363 : decode cL_law 363 = .ok (.iload 4, 2) := by decide +kernel
theorem dL_law_365 : decode cL_law 365 = .ok (.iconst 1, 1) := by decide +kernel
theorem dL_law_366 : decode cL_law 366 = .ok (.iadd, 1) := by decide +kernel
theorem dL_law_367 : decode cL_law 367 = .ok (.iaload, 1) := by decide +kernel
theorem dL_law_368 : decode cL_law 368 = .ok (.aload_n 0, 1) := by decide +kernel
theorem dL_law_369 : decode cL_law 369 = .ok (.iload 4, 2) := by decide +kernel
theorem dL_law_371 : decode cL_law 371 = .ok (.iconst 2, 1) := by decide +kernel
theorem dL_law_372 : decode cL_law 372 = .ok (.iadd, 1) := by decide +kernel
theorem dL_law_373 : decode cL_law 373 = .ok (.iaload, 1) := by decide +kernel
theorem dL_law_374 : decode cL_law 374 = .ok (.aload_n 0, 1) := by decide +kernel
theorem dL_law_375 : decode cL_law 375 = .ok (.iload 4, 2) := by decide +kernel
theorem dL_law_377 : decode cL_law 377 = .ok (.iconst 3, 1) := by decide +kernel
theorem dL_law_378 : decode cL_law 378 = .ok (.iadd, 1) := by decide +kernel
theorem dL_law_379 : decode cL_law 379 = .ok (.iaload, 1) := by decide +kernel
theorem dL_law_380 : decode cL_law 380 = .ok (.aload_n 0, 1) := by decide +kernel
theorem dL_law_381 : decode cL_law 381 = .ok (.iload 4, 2) := by decide +kernel
theorem dL_law_383 : decode cL_law 383 = .ok (.iconst 4, 1) := by decide +kernel
theorem dL_law_384 : decode cL_law 384 = .ok (.iadd, 1) := by decide +kernel
theorem dL_law_385 : decode cL_law 385 = .ok (.iaload, 1) := by decide +kernel
theorem dL_law_386 : decode cL_law 386 = .ok (.aload_n 0, 1) := by decide +kernel
theorem dL_law_387 : decode cL_law 387 = .ok (.iload 4, 2) := by decide +kernel
theorem dL_law_389 : decode cL_law 389 = .ok (.iconst 5, 1) := by decide +kernel
theorem dL_law_390 : decode cL_law 390 = .ok (.iadd, 1) := by decide +kernel
theorem dL_law_391 : decode cL_law 391 = .ok (.iaload, 1) := by decide +kernel
theorem dL_law_392 : decode cL_law 392 = .ok (.aload_n 0, 1) := by decide +kernel
theorem dL_law_393 : decode cL_law 393 = .ok (.iload 4, 2) := by decide +kernel
theorem dL_law_395 : decode cL_law 395 = .ok (.bipush 6, 2) := by decide +kernel
theorem dL_law_397 : decode cL_law 397 = .ok (.iadd, 1) := by decide +kernel
theorem dL_law_398 : decode cL_law 398 = .ok (.iaload, 1) := by decide +kernel
theorem dL_law_399 : decode cL_law 399 = .ok (.aload_n 0, 1) := by decide +kernel
theorem dL_law_400 : decode cL_law 400 = .ok (.iload 4, 2) := by decide +kernel
theorem dL_law_402 : decode cL_law 402 = .ok (.bipush 7, 2) := by decide +kernel
theorem dL_law_404 : decode cL_law 404 = .ok (.iadd, 1) := by decide +kernel
theorem dL_law_405 : decode cL_law 405 = .ok (.iaload, 1) := by decide +kernel
theorem dL_law_406 : decode cL_law 406 = .ok (.invokevirtual 44, 3) := by decide +kernel
theorem dL_law_409 : decode cL_law 409 = .ok (.pop, 1) := by decide +kernel
theorem dL_law_410 : decode cL_law 410 = .ok (.goto 704, 3) := by decide +kernel
theorem dL_law_413 : decode cL_law 413 = .ok (.aload_n 1, 1) := by decide +kernel
theorem dL_law_414 : decode cL_law 414 = .ok (.aload_n 0, 1) := by decide +kernel
theorem dL_law_415 : decode cL_law 415 = .ok (.iload 4, 2) := by decide +kernel
theorem dL_law_417 : decode cL_law 417 = .ok (.iconst 1, 1) := by decide +kernel
theorem dL_law_418 : decode cL_law 418 = .ok (.iadd, 1) := by decide +kernel
theorem dL_law_419 : decode cL_law 419 = .ok (.iaload, 1) := by decide +kernel
theorem dL_law_420 : decode cL_law 420 = .ok (.aload_n 0, 1) := by decide +kernel
theorem dL_law_421 : decode cL_law 421 = .ok (.iload 4, 2) := by decide +kernel
theorem dL_law_423 : decode cL_law 423 = .ok (.iconst 2, 1) := by decide +kernel
theorem dL_law_424 : decode cL_law 424 = .ok (.iadd, 1) := by decide +kernel
theorem dL_law_425 : decode cL_law 425 = .ok (.iaload, 1) := by decide +kernel
theorem dL_law_426 : decode cL_law 426 = .ok (.invokevirtual 45, 3) := by decide +kernel
theorem dL_law_429 : decode cL_law 429 = .ok (.pop, 1) := by decide +kernel
theorem dL_law_430 : decode cL_law 430 = .ok (.aload_n 2, 1) := by decide +kernel
theorem dL_law_431 : decode cL_law 431 = .ok (.aload_n 0, 1) := by decide +kernel
theorem dL_law_432 : decode cL_law 432 = .ok (.iload 4, 2) := by decide +kernel
theorem dL_law_434 : decode cL_law 434 = .ok (.iconst 1, 1) := by decide +kernel
theorem dL_law_435 : decode cL_law 435 = .ok (.iadd, 1) := by decide +kernel
theorem dL_law_436 : decode cL_law 436 = .ok (.iaload, 1) := by decide +kernel
theorem dL_law_437 : decode cL_law 437 = .ok (.aload_n 0, 1) := by decide +kernel
theorem dL_law_438 : decode cL_law 438 = .ok (.iload 4, 2) := by decide +kernel
theorem dL_law_440 : decode cL_law 440 = .ok (.iconst 2, 1) := by decide +kernel
theorem dL_law_441 : decode cL_law 441 = .ok (.iadd, 1) := by decide +kernel
theorem dL_law_442 : decode cL_law 442 = .ok (.iaload, 1) := by decide +kernel
theorem dL_law_443 : decode cL_law 443 = .ok (.invokevirtual 49, 3) := by decide +kernel
theorem dL_law_446 : decode cL_law 446 = .ok (.pop, 1) := by decide +kernel
theorem dL_law_447 : decode cL_law 447 = .ok (.goto 667, 3) := by decide +kernel
theorem dL_law_450 : decode cL_law 450 = .ok (.aload_n 1, 1) := by decide +kernel
theorem dL_law_451 : decode cL_law 451 = .ok (.aload_n 0, 1) := by decide +kernel
theorem dL_law_452 : decode cL_law 452 = .ok (.iload 4, 2) := by decide +kernel
theorem dL_law_454 : decode cL_law 454 = .ok (.iconst 1, 1) := by decide +kernel
theorem dL_law_455 : decode cL_law 455 = .ok (.iadd, 1) := by decide +kernel
theorem dL_law_456 : decode cL_law 456 = .ok (.iaload, 1) := by decide +kernel
theorem dL_law_457 : decode cL_law 457 = .ok (.invokevirtual 50, 3) := by decide +kernel
theorem dL_law_460 : decode cL_law 460 = .ok (.pop, 1) := by decide +kernel
theorem dL_law_461 : decode cL_law 461 = .ok (.aload_n 2, 1) := by decide +kernel
theorem dL_law_462 : decode cL_law 462 = .ok (.aload_n 0, 1) := by decide +kernel
theorem dL_law_463 : decode cL_law 463 = .ok (.iload 4, 2) := by decide +kernel
theorem dL_law_465 : decode cL_law 465 = .ok (.iconst 1, 1) := by decide +kernel
theorem dL_law_466 : decode cL_law 466 = .ok (.iadd, 1) := by decide +kernel
theorem dL_law_467 : decode cL_law 467 = .ok (.iaload, 1) := by decide +kernel
theorem dL_law_468 : decode cL_law 468 = .ok (.invokevirtual 53, 3) := by decide +kernel
theorem dL_law_471 : decode cL_law 471 = .ok (.pop, 1) := by decide +kernel
theorem dL_law_472 : decode cL_law 472 = .ok (.goto 642, 3) := by decide +kernel
theorem dL_law_475 : decode cL_law 475 = .ok (.aload_n 1, 1) := by decide +kernel
theorem dL_law_476 : decode cL_law 476 = .ok (.aload_n 0, 1) := by decide +kernel
theorem dL_law_477 : decode cL_law 477 = .ok (.iload 4, 2) := by decide +kernel
theorem dL_law_479 : decode cL_law 479 = .ok (.iconst 1, 1) := by decide +kernel
theorem dL_law_480 : decode cL_law 480 = .ok (.iadd, 1) := by decide +kernel
theorem dL_law_481 : decode cL_law 481 = .ok (.iaload, 1) := by decide +kernel
theorem dL_law_482 : decode cL_law 482 = .ok (.aload_n 0, 1) := by decide +kernel
theorem dL_law_483 : decode cL_law 483 = .ok (.iload 4, 2) := by decide +kernel
theorem dL_law_485 : decode cL_law 485 = .ok (.iconst 2, 1) := by decide +kernel
theorem dL_law_486 : decode cL_law 486 = .ok (.iadd, 1) := by decide +kernel
theorem dL_law_487 : decode cL_law 487 = .ok (.iaload, 1) := by decide +kernel
theorem dL_law_488 : decode cL_law 488 = .ok (.aload_n 3, 1) := by decide +kernel
theorem dL_law_489 : decode cL_law 489 = .ok (.invokestatic 54, 3) := by decide +kernel
theorem dL_law_492 : decode cL_law 492 = .ok (.istore 5, 2) := by decide +kernel
theorem dL_law_494 : decode cL_law 494 = .ok (.aload_n 2, 1) := by decide +kernel
theorem dL_law_495 : decode cL_law 495 = .ok (.aload_n 0, 1) := by decide +kernel
theorem dL_law_496 : decode cL_law 496 = .ok (.iload 4, 2) := by decide +kernel
theorem dL_law_498 : decode cL_law 498 = .ok (.iconst 1, 1) := by decide +kernel
theorem dL_law_499 : decode cL_law 499 = .ok (.iadd, 1) := by decide +kernel
theorem dL_law_500 : decode cL_law 500 = .ok (.iaload, 1) := by decide +kernel
theorem dL_law_501 : decode cL_law 501 = .ok (.aload_n 0, 1) := by decide +kernel
theorem dL_law_502 : decode cL_law 502 = .ok (.iload 4, 2) := by decide +kernel
theorem dL_law_504 : decode cL_law 504 = .ok (.iconst 2, 1) := by decide +kernel
theorem dL_law_505 : decode cL_law 505 = .ok (.iadd, 1) := by decide +kernel
theorem dL_law_506 : decode cL_law 506 = .ok (.iaload, 1) := by decide +kernel
theorem dL_law_507 : decode cL_law 507 = .ok (.invokevirtual 59, 3) := by decide +kernel
theorem dL_law_510 : decode cL_law 510 = .ok (.istore 6, 2) := by decide +kernel
theorem dL_law_512 : decode cL_law 512 = .ok (.goto 602, 3) := by decide +kernel
theorem dL_law_515 : decode cL_law 515 = .ok (.aload_n 1, 1) := by decide +kernel
theorem dL_law_516 : decode cL_law 516 = .ok (.invokevirtual 60, 3) := by decide +kernel
theorem dL_law_519 : decode cL_law 519 = .ok (.pop, 1) := by decide +kernel
theorem dL_law_520 : decode cL_law 520 = .ok (.aload_n 2, 1) := by decide +kernel
theorem dL_law_521 : decode cL_law 521 = .ok (.invokevirtual 64, 3) := by decide +kernel
theorem dL_law_524 : decode cL_law 524 = .ok (.pop, 1) := by decide +kernel
theorem dL_law_525 : decode cL_law 525 = .ok (.goto 589, 3) := by decide +kernel
theorem dL_law_528 : decode cL_law 528 = .ok (.aload_n 1, 1) := by decide +kernel
theorem dL_law_529 : decode cL_law 529 = .ok (.invokevirtual 65, 3) := by decide +kernel
theorem dL_law_532 : decode cL_law 532 = .ok (.pop, 1) := by decide +kernel
theorem dL_law_533 : decode cL_law 533 = .ok (.aload_n 2, 1) := by decide +kernel
theorem dL_law_534 : decode cL_law 534 = .ok (.invokevirtual 68, 3) := by decide +kernel
theorem dL_law_537 : decode cL_law 537 = .ok (.pop, 1) := by decide +kernel
theorem dL_law_538 : decode cL_law 538 = .ok (.goto 576, 3) := by decide +kernel
theorem dL_law_541 : decode cL_law 541 = .ok (.aload_n 1, 1) := by decide +kernel
theorem dL_law_542 : decode cL_law 542 = .ok (.aload_n 0, 1) := by decide +kernel
theorem dL_law_543 : decode cL_law 543 = .ok (.iload 4, 2) := by decide +kernel
theorem dL_law_545 : decode cL_law 545 = .ok (.iconst 1, 1) := by decide +kernel
theorem dL_law_546 : decode cL_law 546 = .ok (.iadd, 1) := by decide +kernel
theorem dL_law_547 : decode cL_law 547 = .ok (.iaload, 1) := by decide +kernel
theorem dL_law_548 : decode cL_law 548 = .ok (.invokevirtual 69, 3) := by decide +kernel
theorem dL_law_551 : decode cL_law 551 = .ok (.pop, 1) := by decide +kernel
theorem dL_law_552 : decode cL_law 552 = .ok (.aload_n 2, 1) := by decide +kernel
theorem dL_law_553 : decode cL_law 553 = .ok (.aload_n 0, 1) := by decide +kernel
theorem dL_law_554 : decode cL_law 554 = .ok (.iload 4, 2) := by decide +kernel
theorem dL_law_556 : decode cL_law 556 = .ok (.iconst 1, 1) := by decide +kernel
theorem dL_law_557 : decode cL_law 557 = .ok (.iadd, 1) := by decide +kernel
theorem dL_law_558 : decode cL_law 558 = .ok (.iaload, 1) := by decide +kernel
theorem dL_law_559 : decode cL_law 559 = .ok (.invokevirtual 72, 3) := by decide +kernel
theorem dL_law_562 : decode cL_law 562 = .ok (.pop, 1) := by decide +kernel
theorem dL_law_563 : decode cL_law 563 = .ok (.goto 551, 3) := by decide +kernel
theorem dL_law_566 : decode cL_law 566 = .ok (.aload_n 1, 1) := by decide +kernel
theorem dL_law_567 : decode cL_law 567 = .ok (.aload_n 0, 1) := by decide +kernel
theorem dL_law_568 : decode cL_law 568 = .ok (.iload 4, 2) := by decide +kernel
theorem dL_law_570 : decode cL_law 570 = .ok (.iconst 1, 1) := by decide +kernel
theorem dL_law_571 : decode cL_law 571 = .ok (.iadd, 1) := by decide +kernel
theorem dL_law_572 : decode cL_law 572 = .ok (.iaload, 1) := by decide +kernel
theorem dL_law_573 : decode cL_law 573 = .ok (.invokevirtual 73, 3) := by decide +kernel
theorem dL_law_576 : decode cL_law 576 = .ok (.pop, 1) := by decide +kernel
theorem dL_law_577 : decode cL_law 577 = .ok (.aload_n 2, 1) := by decide +kernel
theorem dL_law_578 : decode cL_law 578 = .ok (.aload_n 0, 1) := by decide +kernel
theorem dL_law_579 : decode cL_law 579 = .ok (.iload 4, 2) := by decide +kernel
theorem dL_law_581 : decode cL_law 581 = .ok (.iconst 1, 1) := by decide +kernel
theorem dL_law_582 : decode cL_law 582 = .ok (.iadd, 1) := by decide +kernel
theorem dL_law_583 : decode cL_law 583 = .ok (.iaload, 1) := by decide +kernel
theorem dL_law_584 : decode cL_law 584 = .ok (.invokevirtual 76, 3) := by decide +kernel
theorem dL_law_587 : decode cL_law 587 = .ok (.pop, 1) := by decide +kernel
theorem dL_law_588 : decode cL_law 588 = .ok (.goto 526, 3) := by decide +kernel
theorem dL_law_591 : decode cL_law 591 = .ok (.aload_n 1, 1) := by decide +kernel
theorem dL_law_592 : decode cL_law 592 = .ok (.aload_n 0, 1) := by decide +kernel
theorem dL_law_593 : decode cL_law 593 = .ok (.iload 4, 2) := by decide +kernel
theorem dL_law_595 : decode cL_law 595 = .ok (.iconst 1, 1) := by decide +kernel
theorem dL_law_596 : decode cL_law 596 = .ok (.iadd, 1) := by decide +kernel
theorem dL_law_597 : decode cL_law 597 = .ok (.iaload, 1) := by decide +kernel
theorem dL_law_598 : decode cL_law 598 = .ok (.aload_n 0, 1) := by decide +kernel
theorem dL_law_599 : decode cL_law 599 = .ok (.iload 4, 2) := by decide +kernel
theorem dL_law_601 : decode cL_law 601 = .ok (.iconst 2, 1) := by decide +kernel
theorem dL_law_602 : decode cL_law 602 = .ok (.iadd, 1) := by decide +kernel
theorem dL_law_603 : decode cL_law 603 = .ok (.iaload, 1) := by decide +kernel
theorem dL_law_604 : decode cL_law 604 = .ok (.ifCond .eq 7, 3) := by decide +kernel
theorem dL_law_607 : decode cL_law 607 = .ok (.iconst 1, 1) := by decide +kernel
theorem dL_law_608 : decode cL_law 608 = .ok (.goto 4, 3) := by decide +kernel
theorem dL_law_611 : decode cL_law 611 = .ok (.iconst 0, 1) := by decide +kernel
theorem dL_law_612 : decode cL_law 612 = .ok (.invokevirtual 77, 3) := by decide +kernel
theorem dL_law_615 : decode cL_law 615 = .ok (.pop, 1) := by decide +kernel
theorem dL_law_616 : decode cL_law 616 = .ok (.aload_n 2, 1) := by decide +kernel
theorem dL_law_617 : decode cL_law 617 = .ok (.aload_n 0, 1) := by decide +kernel
theorem dL_law_618 : decode cL_law 618 = .ok (.iload 4, 2) := by decide +kernel
theorem dL_law_620 : decode cL_law 620 = .ok (.iconst 1, 1) := by decide +kernel
theorem dL_law_621 : decode cL_law 621 = .ok (.iadd, 1) := by decide +kernel
theorem dL_law_622 : decode cL_law 622 = .ok (.iaload, 1) := by decide +kernel
theorem dL_law_623 : decode cL_law 623 = .ok (.aload_n 0, 1) := by decide +kernel
theorem dL_law_624 : decode cL_law 624 = .ok (.iload 4, 2) := by decide +kernel
theorem dL_law_626 : decode cL_law 626 = .ok (.iconst 2, 1) := by decide +kernel
theorem dL_law_627 : decode cL_law 627 = .ok (.iadd, 1) := by decide +kernel
theorem dL_law_628 : decode cL_law 628 = .ok (.iaload, 1) := by decide +kernel
theorem dL_law_629 : decode cL_law 629 = .ok (.ifCond .eq 7, 3) := by decide +kernel
theorem dL_law_632 : decode cL_law 632 = .ok (.iconst 1, 1) := by decide +kernel
theorem dL_law_633 : decode cL_law 633 = .ok (.goto 4, 3) := by decide +kernel
theorem dL_law_636 : decode cL_law 636 = .ok (.iconst 0, 1) := by decide +kernel
theorem dL_law_637 : decode cL_law 637 = .ok (.invokevirtual 81, 3) := by decide +kernel
theorem dL_law_640 : decode cL_law 640 = .ok (.pop, 1) := by decide +kernel
theorem dL_law_641 : decode cL_law 641 = .ok (.goto 473, 3) := by decide +kernel
theorem dL_law_644 : decode cL_law 644 = .ok (.aload_n 1, 1) := by decide +kernel
theorem dL_law_645 : decode cL_law 645 = .ok (.aload_n 0, 1) := by decide +kernel
theorem dL_law_646 : decode cL_law 646 = .ok (.iload 4, 2) := by decide +kernel
theorem dL_law_648 : decode cL_law 648 = .ok (.iconst 1, 1) := by decide +kernel
theorem dL_law_649 : decode cL_law 649 = .ok (.iadd, 1) := by decide +kernel
theorem dL_law_650 : decode cL_law 650 = .ok (.iaload, 1) := by decide +kernel
theorem dL_law_651 : decode cL_law 651 = .ok (.aload_n 0, 1) := by decide +kernel
theorem dL_law_652 : decode cL_law 652 = .ok (.iload 4, 2) := by decide +kernel
theorem dL_law_654 : decode cL_law 654 = .ok (.iconst 2, 1) := by decide +kernel
theorem dL_law_655 : decode cL_law 655 = .ok (.iadd, 1) := by decide +kernel
theorem dL_law_656 : decode cL_law 656 = .ok (.iaload, 1) := by decide +kernel
theorem dL_law_657 : decode cL_law 657 = .ok (.invokevirtual 82, 3) := by decide +kernel
theorem dL_law_660 : decode cL_law 660 = .ok (.pop, 1) := by decide +kernel
theorem dL_law_661 : decode cL_law 661 = .ok (.aload_n 2, 1) := by decide +kernel
theorem dL_law_662 : decode cL_law 662 = .ok (.aload_n 0, 1) := by decide +kernel
theorem dL_law_663 : decode cL_law 663 = .ok (.iload 4, 2) := by decide +kernel
theorem dL_law_665 : decode cL_law 665 = .ok (.iconst 1, 1) := by decide +kernel
theorem dL_law_666 : decode cL_law 666 = .ok (.iadd, 1) := by decide +kernel
theorem dL_law_667 : decode cL_law 667 = .ok (.iaload, 1) := by decide +kernel
theorem dL_law_668 : decode cL_law 668 = .ok (.aload_n 0, 1) := by decide +kernel
theorem dL_law_669 : decode cL_law 669 = .ok (.iload 4, 2) := by decide +kernel
theorem dL_law_671 : decode cL_law 671 = .ok (.iconst 2, 1) := by decide +kernel
theorem dL_law_672 : decode cL_law 672 = .ok (.iadd, 1) := by decide +kernel
theorem dL_law_673 : decode cL_law 673 = .ok (.iaload, 1) := by decide +kernel
theorem dL_law_674 : decode cL_law 674 = .ok (.invokevirtual 85, 3) := by decide +kernel
theorem dL_law_677 : decode cL_law 677 = .ok (.pop, 1) := by decide +kernel
theorem dL_law_678 : decode cL_law 678 = .ok (.goto 436, 3) := by decide +kernel
theorem dL_law_681 : decode cL_law 681 = .ok (.aload_n 1, 1) := by decide +kernel
theorem dL_law_682 : decode cL_law 682 = .ok (.aload_n 0, 1) := by decide +kernel
theorem dL_law_683 : decode cL_law 683 = .ok (.iload 4, 2) := by decide +kernel
theorem dL_law_685 : decode cL_law 685 = .ok (.iconst 1, 1) := by decide +kernel
theorem dL_law_686 : decode cL_law 686 = .ok (.iadd, 1) := by decide +kernel
theorem dL_law_687 : decode cL_law 687 = .ok (.iaload, 1) := by decide +kernel
theorem dL_law_688 : decode cL_law 688 = .ok (.aload_n 0, 1) := by decide +kernel
theorem dL_law_689 : decode cL_law 689 = .ok (.iload 4, 2) := by decide +kernel
theorem dL_law_691 : decode cL_law 691 = .ok (.iconst 2, 1) := by decide +kernel
theorem dL_law_692 : decode cL_law 692 = .ok (.iadd, 1) := by decide +kernel
theorem dL_law_693 : decode cL_law 693 = .ok (.iaload, 1) := by decide +kernel
theorem dL_law_694 : decode cL_law 694 = .ok (.invokevirtual 86, 3) := by decide +kernel
theorem dL_law_697 : decode cL_law 697 = .ok (.pop, 1) := by decide +kernel
theorem dL_law_698 : decode cL_law 698 = .ok (.aload_n 2, 1) := by decide +kernel
theorem dL_law_699 : decode cL_law 699 = .ok (.aload_n 0, 1) := by decide +kernel
theorem dL_law_700 : decode cL_law 700 = .ok (.iload 4, 2) := by decide +kernel
theorem dL_law_702 : decode cL_law 702 = .ok (.iconst 1, 1) := by decide +kernel
theorem dL_law_703 : decode cL_law 703 = .ok (.iadd, 1) := by decide +kernel
theorem dL_law_704 : decode cL_law 704 = .ok (.iaload, 1) := by decide +kernel
theorem dL_law_705 : decode cL_law 705 = .ok (.aload_n 0, 1) := by decide +kernel
theorem dL_law_706 : decode cL_law 706 = .ok (.iload 4, 2) := by decide +kernel
theorem dL_law_708 : decode cL_law 708 = .ok (.iconst 2, 1) := by decide +kernel
theorem dL_law_709 : decode cL_law 709 = .ok (.iadd, 1) := by decide +kernel
theorem dL_law_710 : decode cL_law 710 = .ok (.iaload, 1) := by decide +kernel
theorem dL_law_711 : decode cL_law 711 = .ok (.invokevirtual 89, 3) := by decide +kernel
theorem dL_law_714 : decode cL_law 714 = .ok (.pop, 1) := by decide +kernel
theorem dL_law_715 : decode cL_law 715 = .ok (.goto 399, 3) := by decide +kernel
theorem dL_law_718 : decode cL_law 718 = .ok (.aload_n 1, 1) := by decide +kernel
theorem dL_law_719 : decode cL_law 719 = .ok (.aload_n 0, 1) := by decide +kernel
theorem dL_law_720 : decode cL_law 720 = .ok (.iload 4, 2) := by decide +kernel
theorem dL_law_722 : decode cL_law 722 = .ok (.iconst 1, 1) := by decide +kernel
theorem dL_law_723 : decode cL_law 723 = .ok (.iadd, 1) := by decide +kernel
theorem dL_law_724 : decode cL_law 724 = .ok (.iaload, 1) := by decide +kernel
theorem dL_law_725 : decode cL_law 725 = .ok (.invokevirtual 90, 3) := by decide +kernel
theorem dL_law_728 : decode cL_law 728 = .ok (.pop, 1) := by decide +kernel
theorem dL_law_729 : decode cL_law 729 = .ok (.aload_n 2, 1) := by decide +kernel
theorem dL_law_730 : decode cL_law 730 = .ok (.aload_n 0, 1) := by decide +kernel
theorem dL_law_731 : decode cL_law 731 = .ok (.iload 4, 2) := by decide +kernel
theorem dL_law_733 : decode cL_law 733 = .ok (.iconst 1, 1) := by decide +kernel
theorem dL_law_734 : decode cL_law 734 = .ok (.iadd, 1) := by decide +kernel
theorem dL_law_735 : decode cL_law 735 = .ok (.iaload, 1) := by decide +kernel
theorem dL_law_736 : decode cL_law 736 = .ok (.invokevirtual 93, 3) := by decide +kernel
theorem dL_law_739 : decode cL_law 739 = .ok (.pop, 1) := by decide +kernel
theorem dL_law_740 : decode cL_law 740 = .ok (.goto 374, 3) := by decide +kernel
theorem dL_law_743 : decode cL_law 743 = .ok (.aload_n 1, 1) := by decide +kernel
theorem dL_law_744 : decode cL_law 744 = .ok (.aload_n 0, 1) := by decide +kernel
theorem dL_law_745 : decode cL_law 745 = .ok (.iload 4, 2) := by decide +kernel
theorem dL_law_747 : decode cL_law 747 = .ok (.iconst 1, 1) := by decide +kernel
theorem dL_law_748 : decode cL_law 748 = .ok (.iadd, 1) := by decide +kernel
theorem dL_law_749 : decode cL_law 749 = .ok (.iaload, 1) := by decide +kernel
theorem dL_law_750 : decode cL_law 750 = .ok (.aload_n 0, 1) := by decide +kernel
theorem dL_law_751 : decode cL_law 751 = .ok (.iload 4, 2) := by decide +kernel
theorem dL_law_753 : decode cL_law 753 = .ok (.iconst 2, 1) := by decide +kernel
theorem dL_law_754 : decode cL_law 754 = .ok (.iadd, 1) := by decide +kernel
theorem dL_law_755 : decode cL_law 755 = .ok (.iaload, 1) := by decide +kernel
theorem dL_law_756 : decode cL_law 756 = .ok (.invokevirtual 94, 3) := by decide +kernel
theorem dL_law_759 : decode cL_law 759 = .ok (.pop, 1) := by decide +kernel
theorem dL_law_760 : decode cL_law 760 = .ok (.aload_n 2, 1) := by decide +kernel
theorem dL_law_761 : decode cL_law 761 = .ok (.aload_n 0, 1) := by decide +kernel
theorem dL_law_762 : decode cL_law 762 = .ok (.iload 4, 2) := by decide +kernel
theorem dL_law_764 : decode cL_law 764 = .ok (.iconst 1, 1) := by decide +kernel
theorem dL_law_765 : decode cL_law 765 = .ok (.iadd, 1) := by decide +kernel
theorem dL_law_766 : decode cL_law 766 = .ok (.iaload, 1) := by decide +kernel
theorem dL_law_767 : decode cL_law 767 = .ok (.aload_n 0, 1) := by decide +kernel
theorem dL_law_768 : decode cL_law 768 = .ok (.iload 4, 2) := by decide +kernel
theorem dL_law_770 : decode cL_law 770 = .ok (.iconst 2, 1) := by decide +kernel
theorem dL_law_771 : decode cL_law 771 = .ok (.iadd, 1) := by decide +kernel
theorem dL_law_772 : decode cL_law 772 = .ok (.iaload, 1) := by decide +kernel
theorem dL_law_773 : decode cL_law 773 = .ok (.invokevirtual 97, 3) := by decide +kernel
theorem dL_law_776 : decode cL_law 776 = .ok (.pop, 1) := by decide +kernel
theorem dL_law_777 : decode cL_law 777 = .ok (.goto 337, 3) := by decide +kernel
theorem dL_law_780 : decode cL_law 780 = .ok (.aload_n 1, 1) := by decide +kernel
theorem dL_law_781 : decode cL_law 781 = .ok (.aload_n 0, 1) := by decide +kernel
theorem dL_law_782 : decode cL_law 782 = .ok (.iload 4, 2) := by decide +kernel
theorem dL_law_784 : decode cL_law 784 = .ok (.iconst 1, 1) := by decide +kernel
theorem dL_law_785 : decode cL_law 785 = .ok (.iadd, 1) := by decide +kernel
theorem dL_law_786 : decode cL_law 786 = .ok (.iaload, 1) := by decide +kernel
theorem dL_law_787 : decode cL_law 787 = .ok (.aload_n 0, 1) := by decide +kernel
theorem dL_law_788 : decode cL_law 788 = .ok (.iload 4, 2) := by decide +kernel
theorem dL_law_790 : decode cL_law 790 = .ok (.iconst 2, 1) := by decide +kernel
theorem dL_law_791 : decode cL_law 791 = .ok (.iadd, 1) := by decide +kernel
theorem dL_law_792 : decode cL_law 792 = .ok (.iaload, 1) := by decide +kernel
theorem dL_law_793 : decode cL_law 793 = .ok (.invokevirtual 98, 3) := by decide +kernel
theorem dL_law_796 : decode cL_law 796 = .ok (.pop, 1) := by decide +kernel
theorem dL_law_797 : decode cL_law 797 = .ok (.aload_n 2, 1) := by decide +kernel
theorem dL_law_798 : decode cL_law 798 = .ok (.aload_n 0, 1) := by decide +kernel
theorem dL_law_799 : decode cL_law 799 = .ok (.iload 4, 2) := by decide +kernel
theorem dL_law_801 : decode cL_law 801 = .ok (.iconst 1, 1) := by decide +kernel
theorem dL_law_802 : decode cL_law 802 = .ok (.iadd, 1) := by decide +kernel
theorem dL_law_803 : decode cL_law 803 = .ok (.iaload, 1) := by decide +kernel
theorem dL_law_804 : decode cL_law 804 = .ok (.aload_n 0, 1) := by decide +kernel
theorem dL_law_805 : decode cL_law 805 = .ok (.iload 4, 2) := by decide +kernel
theorem dL_law_807 : decode cL_law 807 = .ok (.iconst 2, 1) := by decide +kernel
theorem dL_law_808 : decode cL_law 808 = .ok (.iadd, 1) := by decide +kernel
theorem dL_law_809 : decode cL_law 809 = .ok (.iaload, 1) := by decide +kernel
theorem dL_law_810 : decode cL_law 810 = .ok (.invokevirtual 101, 3) := by decide +kernel
theorem dL_law_813 : decode cL_law 813 = .ok (.pop, 1) := by decide +kernel
theorem dL_law_814 : decode cL_law 814 = .ok (.goto 300, 3) := by decide +kernel
theorem dL_law_817 : decode cL_law 817 = .ok (.aload_n 1, 1) := by decide +kernel
theorem dL_law_818 : decode cL_law 818 = .ok (.aload_n 0, 1) := by decide +kernel
theorem dL_law_819 : decode cL_law 819 = .ok (.iload 4, 2) := by decide +kernel
theorem dL_law_821 : decode cL_law 821 = .ok (.iconst 1, 1) := by decide +kernel
theorem dL_law_822 : decode cL_law 822 = .ok (.iadd, 1) := by decide +kernel
theorem dL_law_823 : decode cL_law 823 = .ok (.iaload, 1) := by decide +kernel
theorem dL_law_824 : decode cL_law 824 = .ok (.invokevirtual 102, 3) := by decide +kernel
theorem dL_law_827 : decode cL_law 827 = .ok (.pop2, 1) := by decide +kernel
theorem dL_law_828 : decode cL_law 828 = .ok (.aload_n 2, 1) := by decide +kernel
theorem dL_law_829 : decode cL_law 829 = .ok (.aload_n 0, 1) := by decide +kernel
theorem dL_law_830 : decode cL_law 830 = .ok (.iload 4, 2) := by decide +kernel
theorem dL_law_832 : decode cL_law 832 = .ok (.iconst 1, 1) := by decide +kernel
theorem dL_law_833 : decode cL_law 833 = .ok (.iadd, 1) := by decide +kernel
theorem dL_law_834 : decode cL_law 834 = .ok (.iaload, 1) := by decide +kernel
theorem dL_law_835 : decode cL_law 835 = .ok (.invokevirtual 106, 3) := by decide +kernel
theorem dL_law_838 : decode cL_law 838 = .ok (.pop2, 1) := by decide +kernel
theorem dL_law_839 : decode cL_law 839 = .ok (.goto 275, 3) := by decide +kernel
theorem dL_law_842 : decode cL_law 842 = .ok (.aload_n 1, 1) := by decide +kernel
theorem dL_law_843 : decode cL_law 843 = .ok (.aload_n 0, 1) := by decide +kernel
theorem dL_law_844 : decode cL_law 844 = .ok (.iload 4, 2) := by decide +kernel
theorem dL_law_846 : decode cL_law 846 = .ok (.iconst 1, 1) := by decide +kernel
theorem dL_law_847 : decode cL_law 847 = .ok (.iadd, 1) := by decide +kernel
theorem dL_law_848 : decode cL_law 848 = .ok (.iaload, 1) := by decide +kernel
theorem dL_law_849 : decode cL_law 849 = .ok (.invokevirtual 107, 3) := by decide +kernel
theorem dL_law_852 : decode cL_law 852 = .ok (.pop2, 1) := by decide +kernel
theorem dL_law_853 : decode cL_law 853 = .ok (.aload_n 2, 1) := by decide +kernel
theorem dL_law_854 : decode cL_law 854 = .ok (.aload_n 0, 1) := by decide +kernel
theorem dL_law_855 : decode cL_law 855 = .ok (.iload 4, 2) := by decide +kernel
theorem dL_law_857 : decode cL_law 857 = .ok (.iconst 1, 1) := by decide +kernel
theorem dL_law_858 : decode cL_law 858 = .ok (.iadd, 1) := by decide +kernel
theorem dL_law_859 : decode cL_law 859 = .ok (.iaload, 1) := by decide +kernel
theorem dL_law_860 : decode cL_law 860 = .ok (.invokevirtual 110, 3) := by decide +kernel
theorem dL_law_863 : decode cL_law 863 = .ok (.pop2, 1) := by decide +kernel
theorem dL_law_864 : decode cL_law 864 = .ok (.goto 250, 3) := by decide +kernel
theorem dL_law_867 : decode cL_law 867 = .ok (.aload_n 1, 1) := by decide +kernel
theorem dL_law_868 : decode cL_law 868 = .ok (.aload_n 0, 1) := by decide +kernel
theorem dL_law_869 : decode cL_law 869 = .ok (.iload 4, 2) := by decide +kernel
theorem dL_law_871 : decode cL_law 871 = .ok (.iconst 1, 1) := by decide +kernel
theorem dL_law_872 : decode cL_law 872 = .ok (.iadd, 1) := by decide +kernel
theorem dL_law_873 : decode cL_law 873 = .ok (.iaload, 1) := by decide +kernel
theorem dL_law_874 : decode cL_law 874 = .ok (.invokevirtual 111, 3) := by decide +kernel
theorem dL_law_877 : decode cL_law 877 = .ok (.pop, 1) := by decide +kernel
theorem dL_law_878 : decode cL_law 878 = .ok (.aload_n 2, 1) := by decide +kernel
theorem dL_law_879 : decode cL_law 879 = .ok (.aload_n 0, 1) := by decide +kernel
theorem dL_law_880 : decode cL_law 880 = .ok (.iload 4, 2) := by decide +kernel
theorem dL_law_882 : decode cL_law 882 = .ok (.iconst 1, 1) := by decide +kernel
theorem dL_law_883 : decode cL_law 883 = .ok (.iadd, 1) := by decide +kernel
theorem dL_law_884 : decode cL_law 884 = .ok (.iaload, 1) := by decide +kernel
theorem dL_law_885 : decode cL_law 885 = .ok (.invokevirtual 114, 3) := by decide +kernel
theorem dL_law_888 : decode cL_law 888 = .ok (.pop, 1) := by decide +kernel
theorem dL_law_889 : decode cL_law 889 = .ok (.goto 225, 3) := by decide +kernel
theorem dL_law_892 : decode cL_law 892 = .ok (.aload_n 1, 1) := by decide +kernel
theorem dL_law_893 : decode cL_law 893 = .ok (.aload_n 0, 1) := by decide +kernel
theorem dL_law_894 : decode cL_law 894 = .ok (.iload 4, 2) := by decide +kernel
theorem dL_law_896 : decode cL_law 896 = .ok (.iconst 1, 1) := by decide +kernel
theorem dL_law_897 : decode cL_law 897 = .ok (.iadd, 1) := by decide +kernel
theorem dL_law_898 : decode cL_law 898 = .ok (.iaload, 1) := by decide +kernel
theorem dL_law_899 : decode cL_law 899 = .ok (.aload_n 0, 1) := by decide +kernel
theorem dL_law_900 : decode cL_law 900 = .ok (.iload 4, 2) := by decide +kernel
theorem dL_law_902 : decode cL_law 902 = .ok (.iconst 2, 1) := by decide +kernel
theorem dL_law_903 : decode cL_law 903 = .ok (.iadd, 1) := by decide +kernel
theorem dL_law_904 : decode cL_law 904 = .ok (.iaload, 1) := by decide +kernel
theorem dL_law_905 : decode cL_law 905 = .ok (.aload_n 0, 1) := by decide +kernel
theorem dL_law_906 : decode cL_law 906 = .ok (.iload 4, 2) := by decide +kernel
theorem dL_law_908 : decode cL_law 908 = .ok (.iconst 3, 1) := by decide +kernel
theorem dL_law_909 : decode cL_law 909 = .ok (.iadd, 1) := by decide +kernel
theorem dL_law_910 : decode cL_law 910 = .ok (.iaload, 1) := by decide +kernel
theorem dL_law_911 : decode cL_law 911 = .ok (.invokevirtual 115, 3) := by decide +kernel
theorem dL_law_914 : decode cL_law 914 = .ok (.pop, 1) := by decide +kernel
theorem dL_law_915 : decode cL_law 915 = .ok (.aload_n 2, 1) := by decide +kernel
theorem dL_law_916 : decode cL_law 916 = .ok (.aload_n 0, 1) := by decide +kernel
theorem dL_law_917 : decode cL_law 917 = .ok (.iload 4, 2) := by decide +kernel
theorem dL_law_919 : decode cL_law 919 = .ok (.iconst 1, 1) := by decide +kernel
theorem dL_law_920 : decode cL_law 920 = .ok (.iadd, 1) := by decide +kernel
theorem dL_law_921 : decode cL_law 921 = .ok (.iaload, 1) := by decide +kernel
theorem dL_law_922 : decode cL_law 922 = .ok (.aload_n 0, 1) := by decide +kernel
theorem dL_law_923 : decode cL_law 923 = .ok (.iload 4, 2) := by decide +kernel
theorem dL_law_925 : decode cL_law 925 = .ok (.iconst 2, 1) := by decide +kernel
theorem dL_law_926 : decode cL_law 926 = .ok (.iadd, 1) := by decide +kernel
theorem dL_law_927 : decode cL_law 927 = .ok (.iaload, 1) := by decide +kernel
theorem dL_law_928 : decode cL_law 928 = .ok (.aload_n 0, 1) := by decide +kernel
theorem dL_law_929 : decode cL_law 929 = .ok (.iload 4, 2) := by decide +kernel
theorem dL_law_931 : decode cL_law 931 = .ok (.iconst 3, 1) := by decide +kernel
theorem dL_law_932 : decode cL_law 932 = .ok (.iadd, 1) := by decide +kernel
theorem dL_law_933 : decode cL_law 933 = .ok (.iaload, 1) := by decide +kernel
theorem dL_law_934 : decode cL_law 934 = .ok (.invokevirtual 119, 3) := by decide +kernel
theorem dL_law_937 : decode cL_law 937 = .ok (.pop, 1) := by decide +kernel
theorem dL_law_938 : decode cL_law 938 = .ok (.goto 176, 3) := by decide +kernel
theorem dL_law_941 : decode cL_law 941 = .ok (.aload_n 1, 1) := by decide +kernel
theorem dL_law_942 : decode cL_law 942 = .ok (.aload_n 0, 1) := by decide +kernel
theorem dL_law_943 : decode cL_law 943 = .ok (.iload 4, 2) := by decide +kernel
theorem dL_law_945 : decode cL_law 945 = .ok (.iconst 1, 1) := by decide +kernel
theorem dL_law_946 : decode cL_law 946 = .ok (.iadd, 1) := by decide +kernel
theorem dL_law_947 : decode cL_law 947 = .ok (.iaload, 1) := by decide +kernel
theorem dL_law_948 : decode cL_law 948 = .ok (.invokevirtual 120, 3) := by decide +kernel
theorem dL_law_951 : decode cL_law 951 = .ok (.aload_n 2, 1) := by decide +kernel
theorem dL_law_952 : decode cL_law 952 = .ok (.aload_n 0, 1) := by decide +kernel
theorem dL_law_953 : decode cL_law 953 = .ok (.iload 4, 2) := by decide +kernel
theorem dL_law_955 : decode cL_law 955 = .ok (.iconst 1, 1) := by decide +kernel
theorem dL_law_956 : decode cL_law 956 = .ok (.iadd, 1) := by decide +kernel
theorem dL_law_957 : decode cL_law 957 = .ok (.iaload, 1) := by decide +kernel
theorem dL_law_958 : decode cL_law 958 = .ok (.invokevirtual 123, 3) := by decide +kernel
theorem dL_law_961 : decode cL_law 961 = .ok (.if_icmp .eq 153, 3) := by decide +kernel
theorem dL_law_964 : decode cL_law 964 = .ok (.iconst 0, 1) := by decide +kernel
theorem dL_law_965 : decode cL_law 965 = .ok (.ireturn, 1) := by decide +kernel
theorem dL_law_966 : decode cL_law 966 = .ok (.aload_n 1, 1) := by decide +kernel
theorem dL_law_967 : decode cL_law 967 = .ok (.aload_n 0, 1) := by decide +kernel
theorem dL_law_968 : decode cL_law 968 = .ok (.iload 4, 2) := by decide +kernel
theorem dL_law_970 : decode cL_law 970 = .ok (.iconst 1, 1) := by decide +kernel
theorem dL_law_971 : decode cL_law 971 = .ok (.iadd, 1) := by decide +kernel
theorem dL_law_972 : decode cL_law 972 = .ok (.iaload, 1) := by decide +kernel
theorem dL_law_973 : decode cL_law 973 = .ok (.aload_n 0, 1) := by decide +kernel
theorem dL_law_974 : decode cL_law 974 = .ok (.iload 4, 2) := by decide +kernel
theorem dL_law_976 : decode cL_law 976 = .ok (.iconst 2, 1) := by decide +kernel
theorem dL_law_977 : decode cL_law 977 = .ok (.iadd, 1) := by decide +kernel
theorem dL_law_978 : decode cL_law 978 = .ok (.iaload, 1) := by decide +kernel
theorem dL_law_979 : decode cL_law 979 = .ok (.invokevirtual 124, 3) := by decide +kernel
theorem dL_law_982 : decode cL_law 982 = .ok (.pop, 1) := by decide +kernel
theorem dL_law_983 : decode cL_law 983 = .ok (.aload_n 2, 1) := by decide +kernel
theorem dL_law_984 : decode cL_law 984 = .ok (.aload_n 0, 1) := by decide +kernel
theorem dL_law_985 : decode cL_law 985 = .ok (.iload 4, 2) := by decide +kernel
theorem dL_law_987 : decode cL_law 987 = .ok (.iconst 1, 1) := by decide +kernel
theorem dL_law_988 : decode cL_law 988 = .ok (.iadd, 1) := by decide +kernel
theorem dL_law_989 : decode cL_law 989 = .ok (.iaload, 1) := by decide +kernel
theorem dL_law_990 : decode cL_law 990 = .ok (.aload_n 0, 1) := by decide +kernel
theorem dL_law_991 : decode cL_law 991 = .ok (.iload 4, 2) := by decide +kernel
theorem dL_law_993 : decode cL_law 993 = .ok (.iconst 2, 1) := by decide +kernel
theorem dL_law_994 : decode cL_law 994 = .ok (.iadd, 1) := by decide +kernel
theorem dL_law_995 : decode cL_law 995 = .ok (.iaload, 1) := by decide +kernel
theorem dL_law_996 : decode cL_law 996 = .ok (.invokevirtual 127, 3) := by decide +kernel
theorem dL_law_999 : decode cL_law 999 = .ok (.pop, 1) := by decide +kernel
theorem dL_law_1000 : decode cL_law 1000 = .ok (.goto 114, 3) := by decide +kernel
theorem dL_law_1003 : decode cL_law 1003 = .ok (.aload_n 1, 1) := by decide +kernel
theorem dL_law_1004 : decode cL_law 1004 = .ok (.aload_n 0, 1) := by decide +kernel
theorem dL_law_1005 : decode cL_law 1005 = .ok (.iload 4, 2) := by decide +kernel
theorem dL_law_1007 : decode cL_law 1007 = .ok (.iconst 1, 1) := by decide +kernel
theorem dL_law_1008 : decode cL_law 1008 = .ok (.iadd, 1) := by decide +kernel
theorem dL_law_1009 : decode cL_law 1009 = .ok (.iaload, 1) := by decide +kernel
theorem dL_law_1010 : decode cL_law 1010 = .ok (.aload_n 0, 1) := by decide +kernel
theorem dL_law_1011 : decode cL_law 1011 = .ok (.iload 4, 2) := by decide +kernel
theorem dL_law_1013 : decode cL_law 1013 = .ok (.iconst 2, 1) := by decide +kernel
theorem dL_law_1014 : decode cL_law 1014 = .ok (.iadd, 1) := by decide +kernel
theorem dL_law_1015 : decode cL_law 1015 = .ok (.iaload, 1) := by decide +kernel
theorem dL_law_1016 : decode cL_law 1016 = .ok (.aload_n 0, 1) := by decide +kernel
theorem dL_law_1017 : decode cL_law 1017 = .ok (.iload 4, 2) := by decide +kernel
theorem dL_law_1019 : decode cL_law 1019 = .ok (.iconst 3, 1) := by decide +kernel
theorem dL_law_1020 : decode cL_law 1020 = .ok (.iadd, 1) := by decide +kernel
theorem dL_law_1021 : decode cL_law 1021 = .ok (.iaload, 1) := by decide +kernel
theorem dL_law_1022 : decode cL_law 1022 = .ok (.invokevirtual 128, 3) := by decide +kernel
theorem dL_law_1025 : decode cL_law 1025 = .ok (.pop, 1) := by decide +kernel
theorem dL_law_1026 : decode cL_law 1026 = .ok (.aload_n 2, 1) := by decide +kernel
theorem dL_law_1027 : decode cL_law 1027 = .ok (.aload_n 0, 1) := by decide +kernel
theorem dL_law_1028 : decode cL_law 1028 = .ok (.iload 4, 2) := by decide +kernel
theorem dL_law_1030 : decode cL_law 1030 = .ok (.iconst 1, 1) := by decide +kernel
theorem dL_law_1031 : decode cL_law 1031 = .ok (.iadd, 1) := by decide +kernel
theorem dL_law_1032 : decode cL_law 1032 = .ok (.iaload, 1) := by decide +kernel
theorem dL_law_1033 : decode cL_law 1033 = .ok (.aload_n 0, 1) := by decide +kernel
theorem dL_law_1034 : decode cL_law 1034 = .ok (.iload 4, 2) := by decide +kernel
theorem dL_law_1036 : decode cL_law 1036 = .ok (.iconst 2, 1) := by decide +kernel
theorem dL_law_1037 : decode cL_law 1037 = .ok (.iadd, 1) := by decide +kernel
theorem dL_law_1038 : decode cL_law 1038 = .ok (.iaload, 1) := by decide +kernel
theorem dL_law_1039 : decode cL_law 1039 = .ok (.aload_n 0, 1) := by decide +kernel
theorem dL_law_1040 : decode cL_law 1040 = .ok (.iload 4, 2) := by decide +kernel
theorem dL_law_1042 : decode cL_law 1042 = .ok (.iconst 3, 1) := by decide +kernel
theorem dL_law_1043 : decode cL_law 1043 = .ok (.iadd, 1) := by decide +kernel
theorem dL_law_1044 : decode cL_law 1044 = .ok (.iaload, 1) := by decide +kernel
theorem dL_law_1045 : decode cL_law 1045 = .ok (.invokevirtual 131, 3) := by decide +kernel
theorem dL_law_1048 : decode cL_law 1048 = .ok (.pop, 1) := by decide +kernel
theorem dL_law_1049 : decode cL_law 1049 = .ok (.goto 65, 3) := by decide +kernel
theorem dL_law_1052 : decode cL_law 1052 = .ok (.aload_n 1, 1) := by decide +kernel
theorem dL_law_1053 : decode cL_law 1053 = .ok (.aload_n 0, 1) := by decide +kernel
theorem dL_law_1054 : decode cL_law 1054 = .ok (.iload 4, 2) := by decide +kernel
theorem dL_law_1056 : decode cL_law 1056 = .ok (.iconst 1, 1) := by decide +kernel
theorem dL_law_1057 : decode cL_law 1057 = .ok (.iadd, 1) := by decide +kernel
theorem dL_law_1058 : decode cL_law 1058 = .ok (.iaload, 1) := by decide +kernel
theorem dL_law_1059 : decode cL_law 1059 = .ok (.aload_n 0, 1) := by decide +kernel
theorem dL_law_1060 : decode cL_law 1060 = .ok (.iload 4, 2) := by decide +kernel
theorem dL_law_1062 : decode cL_law 1062 = .ok (.iconst 2, 1) := by decide +kernel
theorem dL_law_1063 : decode cL_law 1063 = .ok (.iadd, 1) := by decide +kernel
theorem dL_law_1064 : decode cL_law 1064 = .ok (.iaload, 1) := by decide +kernel
theorem dL_law_1065 : decode cL_law 1065 = .ok (.invokevirtual 132, 3) := by decide +kernel
theorem dL_law_1068 : decode cL_law 1068 = .ok (.pop, 1) := by decide +kernel
theorem dL_law_1069 : decode cL_law 1069 = .ok (.aload_n 2, 1) := by decide +kernel
theorem dL_law_1070 : decode cL_law 1070 = .ok (.aload_n 0, 1) := by decide +kernel
theorem dL_law_1071 : decode cL_law 1071 = .ok (.iload 4, 2) := by decide +kernel
theorem dL_law_1073 : decode cL_law 1073 = .ok (.iconst 1, 1) := by decide +kernel
theorem dL_law_1074 : decode cL_law 1074 = .ok (.iadd, 1) := by decide +kernel
theorem dL_law_1075 : decode cL_law 1075 = .ok (.iaload, 1) := by decide +kernel
theorem dL_law_1076 : decode cL_law 1076 = .ok (.aload_n 0, 1) := by decide +kernel
theorem dL_law_1077 : decode cL_law 1077 = .ok (.iload 4, 2) := by decide +kernel
theorem dL_law_1079 : decode cL_law 1079 = .ok (.iconst 2, 1) := by decide +kernel
theorem dL_law_1080 : decode cL_law 1080 = .ok (.iadd, 1) := by decide +kernel
theorem dL_law_1081 : decode cL_law 1081 = .ok (.iaload, 1) := by decide +kernel
theorem dL_law_1082 : decode cL_law 1082 = .ok (.invokevirtual 135, 3) := by decide +kernel
theorem dL_law_1085 : decode cL_law 1085 = .ok (.pop, 1) := by decide +kernel
theorem dL_law_1086 : decode cL_law 1086 = .ok (.goto 28, 3) := by decide +kernel
theorem dL_law_1089 : decode cL_law 1089 = .ok (.aload_n 1, 1) := by decide +kernel
theorem dL_law_1090 : decode cL_law 1090 = .ok (.aload_n 0, 1) := by decide +kernel
theorem dL_law_1091 : decode cL_law 1091 = .ok (.iload 4, 2) := by decide +kernel
theorem dL_law_1093 : decode cL_law 1093 = .ok (.iconst 1, 1) := by decide +kernel
theorem dL_law_1094 : decode cL_law 1094 = .ok (.iadd, 1) := by decide +kernel
theorem dL_law_1095 : decode cL_law 1095 = .ok (.iaload, 1) := by decide +kernel
theorem dL_law_1096 : decode cL_law 1096 = .ok (.invokevirtual 136, 3) := by decide +kernel
theorem dL_law_1099 : decode cL_law 1099 = .ok (.pop, 1) := by decide +kernel
theorem dL_law_1100 : decode cL_law 1100 = .ok (.aload_n 2, 1) := by decide +kernel
theorem dL_law_1101 : decode cL_law 1101 = .ok (.aload_n 0, 1) := by decide +kernel
theorem dL_law_1102 : decode cL_law 1102 = .ok (.iload 4, 2) := by decide +kernel
theorem dL_law_1104 : decode cL_law 1104 = .ok (.iconst 1, 1) := by decide +kernel
theorem dL_law_1105 : decode cL_law 1105 = .ok (.iadd, 1) := by decide +kernel
theorem dL_law_1106 : decode cL_law 1106 = .ok (.iaload, 1) := by decide +kernel
theorem dL_law_1107 : decode cL_law 1107 = .ok (.invokevirtual 139, 3) := by decide +kernel
theorem dL_law_1110 : decode cL_law 1110 = .ok (.pop, 1) := by decide +kernel
theorem dL_law_1111 : decode cL_law 1111 = .ok (.goto 3, 3) := by decide +kernel
theorem dL_law_1114 : decode cL_law 1114 = .ok (.iinc 4 8, 3) := by decide +kernel
theorem dL_law_1117 : decode cL_law 1117 = .ok (.goto (-1094), 3) := by decide +kernel
theorem dL_law_1120 : decode cL_law 1120 = .ok (.iconst 1, 1) := by decide +kernel
theorem dL_law_1121 : decode cL_law 1121 = .ok (.ireturn, 1) := by decide +kernel
