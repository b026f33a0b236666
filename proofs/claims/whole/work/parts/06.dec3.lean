theorem dX10_wrongOf_0 : decode cX10_wrongOf 0 = .ok (.iconst 0, 1) := by decide +kernel
theorem dX10_wrongOf_1 : decode cX10_wrongOf 1 = .ok (.istore_n 2, 1) := by decide +kernel
theorem dX10_wrongOf_2 : decode cX10_wrongOf 2 = .ok (.iconst 0, 1) := by decide +kernel
theorem dX10_wrongOf_3 : decode cX10_wrongOf 3 = .ok (.istore_n 3, 1) := by decide +kernel
theorem dX10_wrongOf_4 : decode cX10_wrongOf 4 = .ok (.iload_n 3, 1) := by decide +kernel
theorem dX10_wrongOf_5 : decode cX10_wrongOf 5 = .ok (.aload_n 0, 1) := by decide +kernel
theorem dX10_wrongOf_6 : decode cX10_wrongOf 6 = .ok (.getfield 178, 3) := by decide +kernel
theorem dX10_wrongOf_9 : decode cX10_wrongOf 9 = .ok (.if_icmp .ge 32, 3) := by decide +kernel
theorem dX10_wrongOf_12 : decode cX10_wrongOf 12 = .ok (.aload_n 0, 1) := by decide +kernel
theorem dX10_wrongOf_13 : decode cX10_wrongOf 13 = .ok (.iload_n 1, 1) := by decide +kernel
theorem dX10_wrongOf_14 : decode cX10_wrongOf 14 = .ok (.iload_n 3, 1) := by decide +kernel
theorem dX10_wrongOf_15 : decode cX10_wrongOf 15 = .ok (.invokevirtual 330, 3) := by decide +kernel
theorem dX10_wrongOf_18 : decode cX10_wrongOf 18 = .ok (.iload_n 2, 1) := by decide +kernel
theorem dX10_wrongOf_19 : decode cX10_wrongOf 19 = .ok (.aload_n 0, 1) := by decide +kernel
theorem dX10_wrongOf_20 : decode cX10_wrongOf 20 = .ok (.getfield 318, 3) := by decide +kernel
theorem dX10_wrongOf_23 : decode cX10_wrongOf 23 = .ok (.ifCond .ne 9, 3) := by decide +kernel
theorem dX10_wrongOf_26 : decode cX10_wrongOf 26 = .ok (.iconst 1, 1) := by decide +kernel
theorem dX10_wrongOf_27 : decode cX10_wrongOf 27 = .ok (.iload_n 3, 1) := by decide +kernel
theorem dX10_wrongOf_28 : decode cX10_wrongOf 28 = .ok (.ishl, 1) := by decide +kernel
theorem dX10_wrongOf_29 : decode cX10_wrongOf 29 = .ok (.goto 4, 3) := by decide +kernel
theorem dX10_wrongOf_32 : decode cX10_wrongOf 32 = .ok (.iconst 0, 1) := by decide +kernel
theorem dX10_wrongOf_33 : decode cX10_wrongOf 33 = .ok (.ior, 1) := by decide +kernel
theorem dX10_wrongOf_34 : decode cX10_wrongOf 34 = .ok (.istore_n 2, 1) := by decide +kernel
theorem dX10_wrongOf_35 : decode cX10_wrongOf 35 = .ok (.iinc 3 1, 3) := by decide +kernel
theorem dX10_wrongOf_38 : decode cX10_wrongOf 38 = .ok (.goto (-34), 3) := by decide +kernel
theorem dX10_wrongOf_41 : decode cX10_wrongOf 41 = .ok (.iload_n 2, 1) := by decide +kernel
theorem dX10_wrongOf_42 : decode cX10_wrongOf 42 = .ok (.ireturn, 1) := by decide +kernel
theorem dX1_begin_0 : decode cX1_begin 0 = .ok (.iconst 0, 1) := by decide +kernel
theorem dX1_begin_1 : decode cX1_begin 1 = .ok (.istore_n 1, 1) := by decide +kernel
theorem dX1_begin_2 : decode cX1_begin 2 = .ok (.iload_n 1, 1) := by decide +kernel
theorem dX1_begin_3 : decode cX1_begin 3 = .ok (.iconst 3, 1) := by decide +kernel
theorem dX1_begin_4 : decode cX1_begin 4 = .ok (.if_icmp .ge 23, 3) := by decide +kernel
theorem dX1_begin_7 : decode cX1_begin 7 = .ok (.aload_n 0, 1) := by decide +kernel
theorem dX1_begin_8 : decode cX1_begin 8 = .ok (.getfield 9, 3) := by decide +kernel
theorem dX1_begin_11 : decode cX1_begin 11 = .ok (.iload_n 1, 1) := by decide +kernel
theorem dX1_begin_12 : decode cX1_begin 12 = .ok (.iconst 0, 1) := by decide +kernel
theorem dX1_begin_13 : decode cX1_begin 13 = .ok (.iastore, 1) := by decide +kernel
theorem dX1_begin_14 : decode cX1_begin 14 = .ok (.aload_n 0, 1) := by decide +kernel
theorem dX1_begin_15 : decode cX1_begin 15 = .ok (.getfield 15, 3) := by decide +kernel
theorem dX1_begin_18 : decode cX1_begin 18 = .ok (.iload_n 1, 1) := by decide +kernel
theorem dX1_begin_19 : decode cX1_begin 19 = .ok (.iconst 0, 1) := by decide +kernel
theorem dX1_begin_20 : decode cX1_begin 20 = .ok (.bastore, 1) := by decide +kernel
theorem dX1_begin_21 : decode cX1_begin 21 = .ok (.iinc 1 1, 3) := by decide +kernel
theorem dX1_begin_24 : decode cX1_begin 24 = .ok (.goto (-22), 3) := by decide +kernel
theorem dX1_begin_27 : decode cX1_begin 27 = .ok (.aload_n 0, 1) := by decide +kernel
theorem dX1_begin_28 : decode cX1_begin 28 = .ok (.iconst 0, 1) := by decide +kernel
theorem dX1_begin_29 : decode cX1_begin 29 = .ok (.putfield 19, 3) := by decide +kernel
theorem dX1_begin_32 : decode cX1_begin 32 = .ok (.return_, 1) := by decide +kernel
theorem dX1_init_0 : decode cX1_init 0 = .ok (.aload_n 0, 1) := by decide +kernel
theorem dX1_init_1 : decode cX1_init 1 = .ok (.invokespecial 3, 3) := by decide +kernel
theorem dX1_init_4 : decode cX1_init 4 = .ok (.aload_n 0, 1) := by decide +kernel
theorem dX1_init_5 : decode cX1_init 5 = .ok (.iconst 3, 1) := by decide +kernel
theorem dX1_init_6 : decode cX1_init 6 = .ok (.newarray .int, 2) := by decide +kernel
theorem dX1_init_8 : decode cX1_init 8 = .ok (.putfield 9, 3) := by decide +kernel
theorem dX1_init_11 : decode cX1_init 11 = .ok (.aload_n 0, 1) := by decide +kernel
theorem dX1_init_12 : decode cX1_init 12 = .ok (.iconst 3, 1) := by decide +kernel
theorem dX1_init_13 : decode cX1_init 13 = .ok (.newarray .boolean, 2) := by decide +kernel
theorem dX1_init_15 : decode cX1_init 15 = .ok (.putfield 15, 3) := by decide +kernel
theorem dX1_init_18 : decode cX1_init 18 = .ok (.return_, 1) := by decide +kernel
theorem dX1_isDone_0 : decode cX1_isDone 0 = .ok (.aload_n 0, 1) := by decide +kernel
theorem dX1_isDone_1 : decode cX1_isDone 1 = .ok (.getfield 19, 3) := by decide +kernel
theorem dX1_isDone_4 : decode cX1_isDone 4 = .ok (.iconst 3, 1) := by decide +kernel
theorem dX1_isDone_5 : decode cX1_isDone 5 = .ok (.if_icmp .ne 7, 3) := by decide +kernel
theorem dX1_isDone_8 : decode cX1_isDone 8 = .ok (.iconst 1, 1) := by decide +kernel
theorem dX1_isDone_9 : decode cX1_isDone 9 = .ok (.goto 4, 3) := by decide +kernel
theorem dX1_isDone_12 : decode cX1_isDone 12 = .ok (.iconst 0, 1) := by decide +kernel
theorem dX1_isDone_13 : decode cX1_isDone 13 = .ok (.ireturn, 1) := by decide +kernel
theorem dX1_take_0 : decode cX1_take 0 = .ok (.aload_n 0, 1) := by decide +kernel
theorem dX1_take_1 : decode cX1_take 1 = .ok (.getfield 19, 3) := by decide +kernel
theorem dX1_take_4 : decode cX1_take 4 = .ok (.tableswitch 50 0 2 #[28, 34, 40], 28) := by decide +kernel
theorem dX1_take_32 : decode cX1_take 32 = .ok (.aload_n 0, 1) := by decide +kernel
theorem dX1_take_33 : decode cX1_take 33 = .ok (.iload_n 1, 1) := by decide +kernel
theorem dX1_take_34 : decode cX1_take 34 = .ok (.invokevirtual 23, 3) := by decide +kernel
theorem dX1_take_37 : decode cX1_take 37 = .ok (.ireturn, 1) := by decide +kernel
theorem dX1_take_38 : decode cX1_take 38 = .ok (.aload_n 0, 1) := by decide +kernel
theorem dX1_take_39 : decode cX1_take 39 = .ok (.iload_n 1, 1) := by decide +kernel
theorem dX1_take_40 : decode cX1_take 40 = .ok (.invokevirtual 27, 3) := by decide +kernel
theorem dX1_take_43 : decode cX1_take 43 = .ok (.ireturn, 1) := by decide +kernel
theorem dX1_take_44 : decode cX1_take 44 = .ok (.aload_n 0, 1) := by decide +kernel
theorem dX1_take_45 : decode cX1_take 45 = .ok (.iconst 0, 1) := by decide +kernel
theorem dX1_take_46 : decode cX1_take 46 = .ok (.iload_n 1, 1) := by decide +kernel
theorem dX1_take_47 : decode cX1_take 47 = .ok (.invokestatic 30, 3) := by decide +kernel
theorem dX1_take_50 : decode cX1_take 50 = .ok (.invokevirtual 34, 3) := by decide +kernel
theorem dX1_take_53 : decode cX1_take 53 = .ok (.ireturn, 1) := by decide +kernel
theorem dX1_take_54 : decode cX1_take 54 = .ok (.aload_n 0, 1) := by decide +kernel
theorem dX1_take_55 : decode cX1_take 55 = .ok (.iload_n 1, 1) := by decide +kernel
theorem dX1_take_56 : decode cX1_take 56 = .ok (.invokevirtual 38, 3) := by decide +kernel
theorem dX1_take_59 : decode cX1_take 59 = .ok (.ireturn, 1) := by decide +kernel
theorem dX1_takeBehindDigit_0 : decode cX1_takeBehindDigit 0 = .ok (.iload_n 1, 1) := by decide +kernel
theorem dX1_takeBehindDigit_1 : decode cX1_takeBehindDigit 1 = .ok (.invokestatic 30, 3) := by decide +kernel
theorem dX1_takeBehindDigit_4 : decode cX1_takeBehindDigit 4 = .ok (.istore_n 2, 1) := by decide +kernel
theorem dX1_takeBehindDigit_5 : decode cX1_takeBehindDigit 5 = .ok (.iload_n 2, 1) := by decide +kernel
theorem dX1_takeBehindDigit_6 : decode cX1_takeBehindDigit 6 = .ok (.iconst (-1), 1) := by decide +kernel
theorem dX1_takeBehindDigit_7 : decode cX1_takeBehindDigit 7 = .ok (.if_icmp .ne 9, 3) := by decide +kernel
theorem dX1_takeBehindDigit_10 : decode cX1_takeBehindDigit 10 = .ok (.aload_n 0, 1) := by decide +kernel
theorem dX1_takeBehindDigit_11 : decode cX1_takeBehindDigit 11 = .ok (.iload_n 1, 1) := by decide +kernel
theorem dX1_takeBehindDigit_12 : decode cX1_takeBehindDigit 12 = .ok (.invokevirtual 23, 3) := by decide +kernel
theorem dX1_takeBehindDigit_15 : decode cX1_takeBehindDigit 15 = .ok (.ireturn, 1) := by decide +kernel
theorem dX1_takeBehindDigit_16 : decode cX1_takeBehindDigit 16 = .ok (.aload_n 0, 1) := by decide +kernel
theorem dX1_takeBehindDigit_17 : decode cX1_takeBehindDigit 17 = .ok (.getfield 50, 3) := by decide +kernel
theorem dX1_takeBehindDigit_20 : decode cX1_takeBehindDigit 20 = .ok (.ifCond .eq 19, 3) := by decide +kernel
theorem dX1_takeBehindDigit_23 : decode cX1_takeBehindDigit 23 = .ok (.aload_n 0, 1) := by decide +kernel
theorem dX1_takeBehindDigit_24 : decode cX1_takeBehindDigit 24 = .ok (.aload_n 0, 1) := by decide +kernel
theorem dX1_takeBehindDigit_25 : decode cX1_takeBehindDigit 25 = .ok (.getfield 50, 3) := by decide +kernel
theorem dX1_takeBehindDigit_28 : decode cX1_takeBehindDigit 28 = .ok (.iload_n 2, 1) := by decide +kernel
theorem dX1_takeBehindDigit_29 : decode cX1_takeBehindDigit 29 = .ok (.invokevirtual 34, 3) := by decide +kernel
theorem dX1_takeBehindDigit_32 : decode cX1_takeBehindDigit 32 = .ok (.ifCond .eq 7, 3) := by decide +kernel
theorem dX1_takeBehindDigit_35 : decode cX1_takeBehindDigit 35 = .ok (.iconst 1, 1) := by decide +kernel
theorem dX1_takeBehindDigit_36 : decode cX1_takeBehindDigit 36 = .ok (.goto 4, 3) := by decide +kernel
theorem dX1_takeBehindDigit_39 : decode cX1_takeBehindDigit 39 = .ok (.iconst 0, 1) := by decide +kernel
theorem dX1_takeBehindDigit_40 : decode cX1_takeBehindDigit 40 = .ok (.ireturn, 1) := by decide +kernel
theorem dX1_takeColour_0 : decode cX1_takeColour 0 = .ok (.iload_n 1, 1) := by decide +kernel
theorem dX1_takeColour_1 : decode cX1_takeColour 1 = .ok (.invokestatic 41, 3) := by decide +kernel
theorem dX1_takeColour_4 : decode cX1_takeColour 4 = .ok (.istore_n 2, 1) := by decide +kernel
theorem dX1_takeColour_5 : decode cX1_takeColour 5 = .ok (.iload_n 2, 1) := by decide +kernel
theorem dX1_takeColour_6 : decode cX1_takeColour 6 = .ok (.iconst (-1), 1) := by decide +kernel
theorem dX1_takeColour_7 : decode cX1_takeColour 7 = .ok (.if_icmp .eq 12, 3) := by decide +kernel
theorem dX1_takeColour_10 : decode cX1_takeColour 10 = .ok (.aload_n 0, 1) := by decide +kernel
theorem dX1_takeColour_11 : decode cX1_takeColour 11 = .ok (.getfield 15, 3) := by decide +kernel
theorem dX1_takeColour_14 : decode cX1_takeColour 14 = .ok (.iload_n 2, 1) := by decide +kernel
theorem dX1_takeColour_15 : decode cX1_takeColour 15 = .ok (.baload, 1) := by decide +kernel
theorem dX1_takeColour_16 : decode cX1_takeColour 16 = .ok (.ifCond .eq 5, 3) := by decide +kernel
theorem dX1_takeColour_19 : decode cX1_takeColour 19 = .ok (.iconst 0, 1) := by decide +kernel
theorem dX1_takeColour_20 : decode cX1_takeColour 20 = .ok (.ireturn, 1) := by decide +kernel
theorem dX1_takeColour_21 : decode cX1_takeColour 21 = .ok (.aload_n 0, 1) := by decide +kernel
theorem dX1_takeColour_22 : decode cX1_takeColour 22 = .ok (.iload_n 2, 1) := by decide +kernel
theorem dX1_takeColour_23 : decode cX1_takeColour 23 = .ok (.putfield 44, 3) := by decide +kernel
theorem dX1_takeColour_26 : decode cX1_takeColour 26 = .ok (.aload_n 0, 1) := by decide +kernel
theorem dX1_takeColour_27 : decode cX1_takeColour 27 = .ok (.getfield 15, 3) := by decide +kernel
theorem dX1_takeColour_30 : decode cX1_takeColour 30 = .ok (.iload_n 2, 1) := by decide +kernel
theorem dX1_takeColour_31 : decode cX1_takeColour 31 = .ok (.iconst 1, 1) := by decide +kernel
theorem dX1_takeColour_32 : decode cX1_takeColour 32 = .ok (.bastore, 1) := by decide +kernel
theorem dX1_takeColour_33 : decode cX1_takeColour 33 = .ok (.aload_n 0, 1) := by decide +kernel
theorem dX1_takeColour_34 : decode cX1_takeColour 34 = .ok (.iconst 1, 1) := by decide +kernel
theorem dX1_takeColour_35 : decode cX1_takeColour 35 = .ok (.putfield 19, 3) := by decide +kernel
theorem dX1_takeColour_38 : decode cX1_takeColour 38 = .ok (.iconst 1, 1) := by decide +kernel
theorem dX1_takeColour_39 : decode cX1_takeColour 39 = .ok (.ireturn, 1) := by decide +kernel
theorem dX1_takeDigit_0 : decode cX1_takeDigit 0 = .ok (.iload_n 1, 1) := by decide +kernel
theorem dX1_takeDigit_1 : decode cX1_takeDigit 1 = .ok (.bipush 10, 2) := by decide +kernel
theorem dX1_takeDigit_3 : decode cX1_takeDigit 3 = .ok (.imul, 1) := by decide +kernel
theorem dX1_takeDigit_4 : decode cX1_takeDigit 4 = .ok (.iload_n 2, 1) := by decide +kernel
theorem dX1_takeDigit_5 : decode cX1_takeDigit 5 = .ok (.iadd, 1) := by decide +kernel
theorem dX1_takeDigit_6 : decode cX1_takeDigit 6 = .ok (.istore_n 3, 1) := by decide +kernel
theorem dX1_takeDigit_7 : decode cX1_takeDigit 7 = .ok (.iload_n 2, 1) := by decide +kernel
theorem dX1_takeDigit_8 : decode cX1_takeDigit 8 = .ok (.iconst (-1), 1) := by decide +kernel
theorem dX1_takeDigit_9 : decode cX1_takeDigit 9 = .ok (.if_icmp .eq 9, 3) := by decide +kernel
theorem dX1_takeDigit_12 : decode cX1_takeDigit 12 = .ok (.iload_n 3, 1) := by decide +kernel
theorem dX1_takeDigit_13 : decode cX1_takeDigit 13 = .ok (.bipush 20, 2) := by decide +kernel
theorem dX1_takeDigit_15 : decode cX1_takeDigit 15 = .ok (.if_icmp .le 5, 3) := by decide +kernel
theorem dX1_takeDigit_18 : decode cX1_takeDigit 18 = .ok (.iconst 0, 1) := by decide +kernel
theorem dX1_takeDigit_19 : decode cX1_takeDigit 19 = .ok (.ireturn, 1) := by decide +kernel
theorem dX1_takeDigit_20 : decode cX1_takeDigit 20 = .ok (.aload_n 0, 1) := by decide +kernel
theorem dX1_takeDigit_21 : decode cX1_takeDigit 21 = .ok (.iload_n 3, 1) := by decide +kernel
theorem dX1_takeDigit_22 : decode cX1_takeDigit 22 = .ok (.putfield 50, 3) := by decide +kernel
theorem dX1_takeDigit_25 : decode cX1_takeDigit 25 = .ok (.aload_n 0, 1) := by decide +kernel
theorem dX1_takeDigit_26 : decode cX1_takeDigit 26 = .ok (.getfield 9, 3) := by decide +kernel
theorem dX1_takeDigit_29 : decode cX1_takeDigit 29 = .ok (.aload_n 0, 1) := by decide +kernel
theorem dX1_takeDigit_30 : decode cX1_takeDigit 30 = .ok (.getfield 44, 3) := by decide +kernel
theorem dX1_takeDigit_33 : decode cX1_takeDigit 33 = .ok (.aload_n 0, 1) := by decide +kernel
theorem dX1_takeDigit_34 : decode cX1_takeDigit 34 = .ok (.getfield 47, 3) := by decide +kernel
theorem dX1_takeDigit_37 : decode cX1_takeDigit 37 = .ok (.iload_n 3, 1) := by decide +kernel
theorem dX1_takeDigit_38 : decode cX1_takeDigit 38 = .ok (.imul, 1) := by decide +kernel
theorem dX1_takeDigit_39 : decode cX1_takeDigit 39 = .ok (.iastore, 1) := by decide +kernel
theorem dX1_takeDigit_40 : decode cX1_takeDigit 40 = .ok (.aload_n 0, 1) := by decide +kernel
theorem dX1_takeDigit_41 : decode cX1_takeDigit 41 = .ok (.iconst 3, 1) := by decide +kernel
theorem dX1_takeDigit_42 : decode cX1_takeDigit 42 = .ok (.putfield 19, 3) := by decide +kernel
theorem dX1_takeDigit_45 : decode cX1_takeDigit 45 = .ok (.iconst 1, 1) := by decide +kernel
theorem dX1_takeDigit_46 : decode cX1_takeDigit 46 = .ok (.ireturn, 1) := by decide +kernel
theorem dX1_takeSign_0 : decode cX1_takeSign 0 = .ok (.iload_n 1, 1) := by decide +kernel
theorem dX1_takeSign_1 : decode cX1_takeSign 1 = .ok (.bipush 43, 2) := by decide +kernel
theorem dX1_takeSign_3 : decode cX1_takeSign 3 = .ok (.if_icmp .eq 11, 3) := by decide +kernel
theorem dX1_takeSign_6 : decode cX1_takeSign 6 = .ok (.iload_n 1, 1) := by decide +kernel
theorem dX1_takeSign_7 : decode cX1_takeSign 7 = .ok (.bipush 45, 2) := by decide +kernel
theorem dX1_takeSign_9 : decode cX1_takeSign 9 = .ok (.if_icmp .eq 5, 3) := by decide +kernel
theorem dX1_takeSign_12 : decode cX1_takeSign 12 = .ok (.iconst 0, 1) := by decide +kernel
theorem dX1_takeSign_13 : decode cX1_takeSign 13 = .ok (.ireturn, 1) := by decide +kernel
theorem dX1_takeSign_14 : decode cX1_takeSign 14 = .ok (.aload_n 0, 1) := by decide +kernel
theorem dX1_takeSign_15 : decode cX1_takeSign 15 = .ok (.iload_n 1, 1) := by decide +kernel
theorem dX1_takeSign_16 : decode cX1_takeSign 16 = .ok (.bipush 43, 2) := by decide +kernel
theorem dX1_takeSign_18 : decode cX1_takeSign 18 = .ok (.if_icmp .ne 7, 3) := by decide +kernel
theorem dX1_takeSign_21 : decode cX1_takeSign 21 = .ok (.iconst 1, 1) := by decide +kernel
theorem dX1_takeSign_22 : decode cX1_takeSign 22 = .ok (.goto 4, 3) := by decide +kernel
theorem dX1_takeSign_25 : decode cX1_takeSign 25 = .ok (.iconst (-1), 1) := by decide +kernel
theorem dX1_takeSign_26 : decode cX1_takeSign 26 = .ok (.putfield 47, 3) := by decide +kernel
theorem dX1_takeSign_29 : decode cX1_takeSign 29 = .ok (.aload_n 0, 1) := by decide +kernel
theorem dX1_takeSign_30 : decode cX1_takeSign 30 = .ok (.iconst 2, 1) := by decide +kernel
theorem dX1_takeSign_31 : decode cX1_takeSign 31 = .ok (.putfield 19, 3) := by decide +kernel
theorem dX1_takeSign_34 : decode cX1_takeSign 34 = .ok (.iconst 1, 1) := by decide +kernel
theorem dX1_takeSign_35 : decode cX1_takeSign 35 = .ok (.ireturn, 1) := by decide +kernel
theorem dX2_classOf_0 : decode cX2_classOf 0 = .ok (.iconst 0, 1) := by decide +kernel
theorem dX2_classOf_1 : decode cX2_classOf 1 = .ok (.istore_n 2, 1) := by decide +kernel
theorem dX2_classOf_2 : decode cX2_classOf 2 = .ok (.iconst 0, 1) := by decide +kernel
theorem dX2_classOf_3 : decode cX2_classOf 3 = .ok (.istore_n 3, 1) := by decide +kernel
theorem dX2_classOf_4 : decode cX2_classOf 4 = .ok (.iload_n 3, 1) := by decide +kernel
theorem dX2_classOf_5 : decode cX2_classOf 5 = .ok (.aload_n 0, 1) := by decide +kernel
theorem dX2_classOf_6 : decode cX2_classOf 6 = .ok (.getfield 28, 3) := by decide +kernel
theorem dX2_classOf_9 : decode cX2_classOf 9 = .ok (.if_icmp .ge 27, 3) := by decide +kernel
theorem dX2_classOf_12 : decode cX2_classOf 12 = .ok (.iload_n 3, 1) := by decide +kernel
theorem dX2_classOf_13 : decode cX2_classOf 13 = .ok (.iconst 5, 1) := by decide +kernel
theorem dX2_classOf_14 : decode cX2_classOf 14 = .ok (.if_icmp .ge 22, 3) := by decide +kernel
theorem dX2_classOf_17 : decode cX2_classOf 17 = .ok (.aload_n 0, 1) := by decide +kernel
theorem dX2_classOf_18 : decode cX2_classOf 18 = .ok (.getfield 9, 3) := by decide +kernel
theorem dX2_classOf_21 : decode cX2_classOf 21 = .ok (.iload_n 3, 1) := by decide +kernel
theorem dX2_classOf_22 : decode cX2_classOf 22 = .ok (.iaload, 1) := by decide +kernel
theorem dX2_classOf_23 : decode cX2_classOf 23 = .ok (.iload_n 1, 1) := by decide +kernel
theorem dX2_classOf_24 : decode cX2_classOf 24 = .ok (.if_icmp .gt 6, 3) := by decide +kernel
theorem dX2_classOf_27 : decode cX2_classOf 27 = .ok (.iinc 2 1, 3) := by decide +kernel
theorem dX2_classOf_30 : decode cX2_classOf 30 = .ok (.iinc 3 1, 3) := by decide +kernel
theorem dX2_classOf_33 : decode cX2_classOf 33 = .ok (.goto (-29), 3) := by decide +kernel
theorem dX2_classOf_36 : decode cX2_classOf 36 = .ok (.iload_n 2, 1) := by decide +kernel
theorem dX2_classOf_37 : decode cX2_classOf 37 = .ok (.ireturn, 1) := by decide +kernel
theorem dX2_highest_0 : decode cX2_highest 0 = .ok (.aload_n 0, 1) := by decide +kernel
theorem dX2_highest_1 : decode cX2_highest 1 = .ok (.iload_n 1, 1) := by decide +kernel
theorem dX2_highest_2 : decode cX2_highest 2 = .ok (.aload_n 0, 1) := by decide +kernel
theorem dX2_highest_3 : decode cX2_highest 3 = .ok (.getfield 32, 3) := by decide +kernel
theorem dX2_highest_6 : decode cX2_highest 6 = .ok (.iadd, 1) := by decide +kernel
theorem dX2_highest_7 : decode cX2_highest 7 = .ok (.invokevirtual 35, 3) := by decide +kernel
theorem dX2_highest_10 : decode cX2_highest 10 = .ok (.ireturn, 1) := by decide +kernel
theorem dX2_init_0 : decode cX2_init 0 = .ok (.aload_n 0, 1) := by decide +kernel
theorem dX2_init_1 : decode cX2_init 1 = .ok (.invokespecial 3, 3) := by decide +kernel
theorem dX2_init_4 : decode cX2_init 4 = .ok (.aload_n 0, 1) := by decide +kernel
theorem dX2_init_5 : decode cX2_init 5 = .ok (.iconst 5, 1) := by decide +kernel
theorem dX2_init_6 : decode cX2_init 6 = .ok (.newarray .int, 2) := by decide +kernel
theorem dX2_init_8 : decode cX2_init 8 = .ok (.putfield 9, 3) := by decide +kernel
theorem dX2_init_11 : decode cX2_init 11 = .ok (.return_, 1) := by decide +kernel
theorem dX2_lowest_0 : decode cX2_lowest 0 = .ok (.aload_n 0, 1) := by decide +kernel
theorem dX2_lowest_1 : decode cX2_lowest 1 = .ok (.iload_n 1, 1) := by decide +kernel
theorem dX2_lowest_2 : decode cX2_lowest 2 = .ok (.aload_n 0, 1) := by decide +kernel
theorem dX2_lowest_3 : decode cX2_lowest 3 = .ok (.getfield 32, 3) := by decide +kernel
theorem dX2_lowest_6 : decode cX2_lowest 6 = .ok (.isub, 1) := by decide +kernel
theorem dX2_lowest_7 : decode cX2_lowest 7 = .ok (.invokevirtual 35, 3) := by decide +kernel
theorem dX2_lowest_10 : decode cX2_lowest 10 = .ok (.ireturn, 1) := by decide +kernel
theorem dX2_takeFrom_0 : decode cX2_takeFrom 0 = .ok (.aload_n 1, 1) := by decide +kernel
theorem dX2_takeFrom_1 : decode cX2_takeFrom 1 = .ok (.getfield 15, 3) := by decide +kernel
theorem dX2_takeFrom_4 : decode cX2_takeFrom 4 = .ok (.iconst 0, 1) := by decide +kernel
theorem dX2_takeFrom_5 : decode cX2_takeFrom 5 = .ok (.aload_n 0, 1) := by decide +kernel
theorem dX2_takeFrom_6 : decode cX2_takeFrom 6 = .ok (.getfield 9, 3) := by decide +kernel
theorem dX2_takeFrom_9 : decode cX2_takeFrom 9 = .ok (.iconst 0, 1) := by decide +kernel
theorem dX2_takeFrom_10 : decode cX2_takeFrom 10 = .ok (.iconst 5, 1) := by decide +kernel
theorem dX2_takeFrom_11 : decode cX2_takeFrom 11 = .ok (.invokestatic 18, 3) := by decide +kernel
theorem dX2_takeFrom_14 : decode cX2_takeFrom 14 = .ok (.aload_n 0, 1) := by decide +kernel
theorem dX2_takeFrom_15 : decode cX2_takeFrom 15 = .ok (.aload_n 1, 1) := by decide +kernel
theorem dX2_takeFrom_16 : decode cX2_takeFrom 16 = .ok (.getfield 24, 3) := by decide +kernel
theorem dX2_takeFrom_19 : decode cX2_takeFrom 19 = .ok (.putfield 28, 3) := by decide +kernel
theorem dX2_takeFrom_22 : decode cX2_takeFrom 22 = .ok (.aload_n 0, 1) := by decide +kernel
theorem dX2_takeFrom_23 : decode cX2_takeFrom 23 = .ok (.aload_n 1, 1) := by decide +kernel
theorem dX2_takeFrom_24 : decode cX2_takeFrom 24 = .ok (.getfield 29, 3) := by decide +kernel
theorem dX2_takeFrom_27 : decode cX2_takeFrom 27 = .ok (.putfield 32, 3) := by decide +kernel
theorem dX2_takeFrom_30 : decode cX2_takeFrom 30 = .ok (.return_, 1) := by decide +kernel
theorem dX3_begin_0 : decode cX3_begin 0 = .ok (.aload_n 0, 1) := by decide +kernel
theorem dX3_begin_1 : decode cX3_begin 1 = .ok (.iconst 0, 1) := by decide +kernel
theorem dX3_begin_2 : decode cX3_begin 2 = .ok (.putfield 15, 3) := by decide +kernel
theorem dX3_begin_5 : decode cX3_begin 5 = .ok (.aload_n 0, 1) := by decide +kernel
theorem dX3_begin_6 : decode cX3_begin 6 = .ok (.iconst 0, 1) := by decide +kernel
theorem dX3_begin_7 : decode cX3_begin 7 = .ok (.putfield 19, 3) := by decide +kernel
theorem dX3_begin_10 : decode cX3_begin 10 = .ok (.aload_n 0, 1) := by decide +kernel
theorem dX3_begin_11 : decode cX3_begin 11 = .ok (.iconst 0, 1) := by decide +kernel
theorem dX3_begin_12 : decode cX3_begin 12 = .ok (.putfield 22, 3) := by decide +kernel
theorem dX3_begin_15 : decode cX3_begin 15 = .ok (.aload_n 0, 1) := by decide +kernel
theorem dX3_begin_16 : decode cX3_begin 16 = .ok (.iconst 0, 1) := by decide +kernel
theorem dX3_begin_17 : decode cX3_begin 17 = .ok (.putfield 25, 3) := by decide +kernel
theorem dX3_begin_20 : decode cX3_begin 20 = .ok (.return_, 1) := by decide +kernel
theorem dX3_boundAhead_0 : decode cX3_boundAhead 0 = .ok (.aload_n 0, 1) := by decide +kernel
theorem dX3_boundAhead_1 : decode cX3_boundAhead 1 = .ok (.getfield 15, 3) := by decide +kernel
theorem dX3_boundAhead_4 : decode cX3_boundAhead 4 = .ok (.ifCond .le 25, 3) := by decide +kernel
theorem dX3_boundAhead_7 : decode cX3_boundAhead 7 = .ok (.aload_n 0, 1) := by decide +kernel
theorem dX3_boundAhead_8 : decode cX3_boundAhead 8 = .ok (.getfield 15, 3) := by decide +kernel
theorem dX3_boundAhead_11 : decode cX3_boundAhead 11 = .ok (.iconst 5, 1) := by decide +kernel
theorem dX3_boundAhead_12 : decode cX3_boundAhead 12 = .ok (.if_icmp .gt 17, 3) := by decide +kernel
theorem dX3_boundAhead_15 : decode cX3_boundAhead 15 = .ok (.aload_n 0, 1) := by decide +kernel
theorem dX3_boundAhead_16 : decode cX3_boundAhead 16 = .ok (.getfield 9, 3) := by decide +kernel
theorem dX3_boundAhead_19 : decode cX3_boundAhead 19 = .ok (.aload_n 0, 1) := by decide +kernel
theorem dX3_boundAhead_20 : decode cX3_boundAhead 20 = .ok (.getfield 15, 3) := by decide +kernel
theorem dX3_boundAhead_23 : decode cX3_boundAhead 23 = .ok (.iconst 1, 1) := by decide +kernel
theorem dX3_boundAhead_24 : decode cX3_boundAhead 24 = .ok (.isub, 1) := by decide +kernel
theorem dX3_boundAhead_25 : decode cX3_boundAhead 25 = .ok (.iaload, 1) := by decide +kernel
theorem dX3_boundAhead_26 : decode cX3_boundAhead 26 = .ok (.goto 4, 3) := by decide +kernel
theorem dX3_boundAhead_29 : decode cX3_boundAhead 29 = .ok (.iconst 0, 1) := by decide +kernel
theorem dX3_boundAhead_30 : decode cX3_boundAhead 30 = .ok (.ireturn, 1) := by decide +kernel
theorem dX3_endBound_0 : decode cX3_endBound 0 = .ok (.aload_n 0, 1) := by decide +kernel
theorem dX3_endBound_1 : decode cX3_endBound 1 = .ok (.getfield 15, 3) := by decide +kernel
theorem dX3_endBound_4 : decode cX3_endBound 4 = .ok (.iconst 5, 1) := by decide +kernel
theorem dX3_endBound_5 : decode cX3_endBound 5 = .ok (.if_icmp .lt 5, 3) := by decide +kernel
theorem dX3_endBound_8 : decode cX3_endBound 8 = .ok (.iconst 0, 1) := by decide +kernel
theorem dX3_endBound_9 : decode cX3_endBound 9 = .ok (.ireturn, 1) := by decide +kernel
theorem dX3_endBound_10 : decode cX3_endBound 10 = .ok (.aload_n 0, 1) := by decide +kernel
theorem dX3_endBound_11 : decode cX3_endBound 11 = .ok (.getfield 9, 3) := by decide +kernel
theorem dX3_endBound_14 : decode cX3_endBound 14 = .ok (.aload_n 0, 1) := by decide +kernel
theorem dX3_endBound_15 : decode cX3_endBound 15 = .ok (.getfield 15, 3) := by decide +kernel
theorem dX3_endBound_18 : decode cX3_endBound 18 = .ok (.aload_n 0, 1) := by decide +kernel
theorem dX3_endBound_19 : decode cX3_endBound 19 = .ok (.getfield 19, 3) := by decide +kernel
theorem dX3_endBound_22 : decode cX3_endBound 22 = .ok (.iastore, 1) := by decide +kernel
theorem dX3_endBound_23 : decode cX3_endBound 23 = .ok (.aload_n 0, 1) := by decide +kernel
theorem dX3_endBound_24 : decode cX3_endBound 24 = .ok (.dup, 1) := by decide +kernel
theorem dX3_endBound_25 : decode cX3_endBound 25 = .ok (.getfield 15, 3) := by decide +kernel
theorem dX3_endBound_28 : decode cX3_endBound 28 = .ok (.iconst 1, 1) := by decide +kernel
theorem dX3_endBound_29 : decode cX3_endBound 29 = .ok (.iadd, 1) := by decide +kernel
theorem dX3_endBound_30 : decode cX3_endBound 30 = .ok (.putfield 15, 3) := by decide +kernel
theorem dX3_endBound_33 : decode cX3_endBound 33 = .ok (.aload_n 0, 1) := by decide +kernel
theorem dX3_endBound_34 : decode cX3_endBound 34 = .ok (.iconst 0, 1) := by decide +kernel
theorem dX3_endBound_35 : decode cX3_endBound 35 = .ok (.putfield 19, 3) := by decide +kernel
theorem dX3_endBound_38 : decode cX3_endBound 38 = .ok (.aload_n 0, 1) := by decide +kernel
theorem dX3_endBound_39 : decode cX3_endBound 39 = .ok (.iconst 0, 1) := by decide +kernel
theorem dX3_endBound_40 : decode cX3_endBound 40 = .ok (.putfield 22, 3) := by decide +kernel
theorem dX3_endBound_43 : decode cX3_endBound 43 = .ok (.iconst 1, 1) := by decide +kernel
theorem dX3_endBound_44 : decode cX3_endBound 44 = .ok (.ireturn, 1) := by decide +kernel
theorem dX3_grow_0 : decode cX3_grow 0 = .ok (.aload_n 0, 1) := by decide +kernel
theorem dX3_grow_1 : decode cX3_grow 1 = .ok (.aload_n 0, 1) := by decide +kernel
theorem dX3_grow_2 : decode cX3_grow 2 = .ok (.getfield 19, 3) := by decide +kernel
theorem dX3_grow_5 : decode cX3_grow 5 = .ok (.bipush 10, 2) := by decide +kernel
theorem dX3_grow_7 : decode cX3_grow 7 = .ok (.imul, 1) := by decide +kernel
theorem dX3_grow_8 : decode cX3_grow 8 = .ok (.iload_n 1, 1) := by decide +kernel
theorem dX3_grow_9 : decode cX3_grow 9 = .ok (.iadd, 1) := by decide +kernel
theorem dX3_grow_10 : decode cX3_grow 10 = .ok (.putfield 19, 3) := by decide +kernel
theorem dX3_grow_13 : decode cX3_grow 13 = .ok (.aload_n 0, 1) := by decide +kernel
theorem dX3_grow_14 : decode cX3_grow 14 = .ok (.dup, 1) := by decide +kernel
theorem dX3_grow_15 : decode cX3_grow 15 = .ok (.getfield 22, 3) := by decide +kernel
theorem dX3_grow_18 : decode cX3_grow 18 = .ok (.iconst 1, 1) := by decide +kernel
theorem dX3_grow_19 : decode cX3_grow 19 = .ok (.iadd, 1) := by decide +kernel
theorem dX3_grow_20 : decode cX3_grow 20 = .ok (.putfield 22, 3) := by decide +kernel
theorem dX3_grow_23 : decode cX3_grow 23 = .ok (.return_, 1) := by decide +kernel
theorem dX3_init_0 : decode cX3_init 0 = .ok (.aload_n 0, 1) := by decide +kernel
theorem dX3_init_1 : decode cX3_init 1 = .ok (.invokespecial 3, 3) := by decide +kernel
theorem dX3_init_4 : decode cX3_init 4 = .ok (.aload_n 0, 1) := by decide +kernel
theorem dX3_init_5 : decode cX3_init 5 = .ok (.iconst 5, 1) := by decide +kernel
theorem dX3_init_6 : decode cX3_init 6 = .ok (.newarray .int, 2) := by decide +kernel
theorem dX3_init_8 : decode cX3_init 8 = .ok (.putfield 9, 3) := by decide +kernel
theorem dX3_init_11 : decode cX3_init 11 = .ok (.return_, 1) := by decide +kernel
theorem dX3_isDone_0 : decode cX3_isDone 0 = .ok (.aload_n 0, 1) := by decide +kernel
theorem dX3_isDone_1 : decode cX3_isDone 1 = .ok (.getfield 25, 3) := by decide +kernel
theorem dX3_isDone_4 : decode cX3_isDone 4 = .ok (.ifCond .eq 14, 3) := by decide +kernel
theorem dX3_isDone_7 : decode cX3_isDone 7 = .ok (.aload_n 0, 1) := by decide +kernel
theorem dX3_isDone_8 : decode cX3_isDone 8 = .ok (.getfield 22, 3) := by decide +kernel
theorem dX3_isDone_11 : decode cX3_isDone 11 = .ok (.ifCond .le 7, 3) := by decide +kernel
theorem dX3_isDone_14 : decode cX3_isDone 14 = .ok (.iconst 1, 1) := by decide +kernel
theorem dX3_isDone_15 : decode cX3_isDone 15 = .ok (.goto 4, 3) := by decide +kernel
theorem dX3_isDone_18 : decode cX3_isDone 18 = .ok (.iconst 0, 1) := by decide +kernel
theorem dX3_isDone_19 : decode cX3_isDone 19 = .ok (.ireturn, 1) := by decide +kernel
theorem dX3_take_0 : decode cX3_take 0 = .ok (.iload_n 1, 1) := by decide +kernel
theorem dX3_take_1 : decode cX3_take 1 = .ok (.invokestatic 29, 3) := by decide +kernel
theorem dX3_take_4 : decode cX3_take 4 = .ok (.istore_n 2, 1) := by decide +kernel
theorem dX3_take_5 : decode cX3_take 5 = .ok (.iload_n 2, 1) := by decide +kernel
theorem dX3_take_6 : decode cX3_take 6 = .ok (.iconst (-1), 1) := by decide +kernel
theorem dX3_take_7 : decode cX3_take 7 = .ok (.if_icmp .eq 24, 3) := by decide +kernel
theorem dX3_take_10 : decode cX3_take 10 = .ok (.aload_n 0, 1) := by decide +kernel
theorem dX3_take_11 : decode cX3_take 11 = .ok (.getfield 25, 3) := by decide +kernel
theorem dX3_take_14 : decode cX3_take 14 = .ok (.ifCond .eq 11, 3) := by decide +kernel
theorem dX3_take_17 : decode cX3_take 17 = .ok (.aload_n 0, 1) := by decide +kernel
theorem dX3_take_18 : decode cX3_take 18 = .ok (.iload_n 2, 1) := by decide +kernel
theorem dX3_take_19 : decode cX3_take 19 = .ok (.invokevirtual 33, 3) := by decide +kernel
theorem dX3_take_22 : decode cX3_take 22 = .ok (.goto 8, 3) := by decide +kernel
theorem dX3_take_25 : decode cX3_take 25 = .ok (.aload_n 0, 1) := by decide +kernel
theorem dX3_take_26 : decode cX3_take 26 = .ok (.iload_n 2, 1) := by decide +kernel
theorem dX3_take_27 : decode cX3_take 27 = .ok (.invokevirtual 37, 3) := by decide +kernel
theorem dX3_take_30 : decode cX3_take 30 = .ok (.ireturn, 1) := by decide +kernel
theorem dX3_take_31 : decode cX3_take 31 = .ok (.aload_n 0, 1) := by decide +kernel
theorem dX3_take_32 : decode cX3_take 32 = .ok (.getfield 25, 3) := by decide +kernel
theorem dX3_take_35 : decode cX3_take 35 = .ok (.ifCond .ne 21, 3) := by decide +kernel
theorem dX3_take_38 : decode cX3_take 38 = .ok (.aload_n 0, 1) := by decide +kernel
theorem dX3_take_39 : decode cX3_take 39 = .ok (.getfield 22, 3) := by decide +kernel
theorem dX3_take_42 : decode cX3_take 42 = .ok (.ifCond .eq 14, 3) := by decide +kernel
theorem dX3_take_45 : decode cX3_take 45 = .ok (.aload_n 0, 1) := by decide +kernel
theorem dX3_take_46 : decode cX3_take 46 = .ok (.getfield 19, 3) := by decide +kernel
theorem dX3_take_49 : decode cX3_take 49 = .ok (.aload_n 0, 1) := by decide +kernel
theorem dX3_take_50 : decode cX3_take 50 = .ok (.invokevirtual 40, 3) := by decide +kernel
theorem dX3_take_53 : decode cX3_take 53 = .ok (.if_icmp .gt 5, 3) := by decide +kernel
theorem dX3_take_56 : decode cX3_take 56 = .ok (.iconst 0, 1) := by decide +kernel
theorem dX3_take_57 : decode cX3_take 57 = .ok (.ireturn, 1) := by decide +kernel
theorem dX3_take_58 : decode cX3_take 58 = .ok (.iload_n 1, 1) := by decide +kernel
theorem dX3_take_59 : decode cX3_take 59 = .ok (.bipush 44, 2) := by decide +kernel
theorem dX3_take_61 : decode cX3_take 61 = .ok (.if_icmp .ne 36, 3) := by decide +kernel
theorem dX3_take_64 : decode cX3_take 64 = .ok (.aload_n 0, 1) := by decide +kernel
theorem dX3_take_65 : decode cX3_take 65 = .ok (.getfield 19, 3) := by decide +kernel
theorem dX3_take_68 : decode cX3_take 68 = .ok (.sipush 999, 3) := by decide +kernel
theorem dX3_take_71 : decode cX3_take 71 = .ok (.if_icmp .ge 24, 3) := by decide +kernel
theorem dX3_take_74 : decode cX3_take 74 = .ok (.aload_n 0, 1) := by decide +kernel
theorem dX3_take_75 : decode cX3_take 75 = .ok (.getfield 15, 3) := by decide +kernel
theorem dX3_take_78 : decode cX3_take 78 = .ok (.iconst 1, 1) := by decide +kernel
theorem dX3_take_79 : decode cX3_take 79 = .ok (.iadd, 1) := by decide +kernel
theorem dX3_take_80 : decode cX3_take 80 = .ok (.iconst 5, 1) := by decide +kernel
theorem dX3_take_81 : decode cX3_take 81 = .ok (.if_icmp .ge 14, 3) := by decide +kernel
theorem dX3_take_84 : decode cX3_take 84 = .ok (.aload_n 0, 1) := by decide +kernel
theorem dX3_take_85 : decode cX3_take 85 = .ok (.invokevirtual 44, 3) := by decide +kernel
theorem dX3_take_88 : decode cX3_take 88 = .ok (.ifCond .eq 7, 3) := by decide +kernel
theorem dX3_take_91 : decode cX3_take 91 = .ok (.iconst 1, 1) := by decide +kernel
theorem dX3_take_92 : decode cX3_take 92 = .ok (.goto 4, 3) := by decide +kernel
theorem dX3_take_95 : decode cX3_take 95 = .ok (.iconst 0, 1) := by decide +kernel
theorem dX3_take_96 : decode cX3_take 96 = .ok (.ireturn, 1) := by decide +kernel
theorem dX3_take_97 : decode cX3_take 97 = .ok (.aload_n 0, 1) := by decide +kernel
theorem dX3_take_98 : decode cX3_take 98 = .ok (.iload_n 1, 1) := by decide +kernel
theorem dX3_take_99 : decode cX3_take 99 = .ok (.bipush 59, 2) := by decide +kernel
theorem dX3_take_101 : decode cX3_take 101 = .ok (.if_icmp .ne 7, 3) := by decide +kernel
theorem dX3_take_104 : decode cX3_take 104 = .ok (.iconst 1, 1) := by decide +kernel
theorem dX3_take_105 : decode cX3_take 105 = .ok (.goto 4, 3) := by decide +kernel
theorem dX3_take_108 : decode cX3_take 108 = .ok (.iconst 0, 1) := by decide +kernel
theorem dX3_take_109 : decode cX3_take 109 = .ok (.putfield 25, 3) := by decide +kernel
theorem dX3_take_112 : decode cX3_take 112 = .ok (.aload_n 0, 1) := by decide +kernel
theorem dX3_take_113 : decode cX3_take 113 = .ok (.getfield 25, 3) := by decide +kernel
theorem dX3_take_116 : decode cX3_take 116 = .ok (.ifCond .eq 14, 3) := by decide +kernel
theorem dX3_take_119 : decode cX3_take 119 = .ok (.aload_n 0, 1) := by decide +kernel
theorem dX3_take_120 : decode cX3_take 120 = .ok (.invokevirtual 44, 3) := by decide +kernel
theorem dX3_take_123 : decode cX3_take 123 = .ok (.ifCond .eq 7, 3) := by decide +kernel
theorem dX3_take_126 : decode cX3_take 126 = .ok (.iconst 1, 1) := by decide +kernel
theorem dX3_take_127 : decode cX3_take 127 = .ok (.goto 4, 3) := by decide +kernel
theorem dX3_take_130 : decode cX3_take 130 = .ok (.iconst 0, 1) := by decide +kernel
theorem dX3_take_131 : decode cX3_take 131 = .ok (.ireturn, 1) := by decide +kernel
theorem dX3_takeOfBound_0 : decode cX3_takeOfBound 0 = .ok (.aload_n 0, 1) := by decide +kernel
theorem dX3_takeOfBound_1 : decode cX3_takeOfBound 1 = .ok (.getfield 22, 3) := by decide +kernel
theorem dX3_takeOfBound_4 : decode cX3_takeOfBound 4 = .ok (.iconst 3, 1) := by decide +kernel
theorem dX3_takeOfBound_5 : decode cX3_takeOfBound 5 = .ok (.if_icmp .eq 14, 3) := by decide +kernel
theorem dX3_takeOfBound_8 : decode cX3_takeOfBound 8 = .ok (.aload_n 0, 1) := by decide +kernel
theorem dX3_takeOfBound_9 : decode cX3_takeOfBound 9 = .ok (.getfield 22, 3) := by decide +kernel
theorem dX3_takeOfBound_12 : decode cX3_takeOfBound 12 = .ok (.ifCond .ne 9, 3) := by decide +kernel
theorem dX3_takeOfBound_15 : decode cX3_takeOfBound 15 = .ok (.iload_n 1, 1) := by decide +kernel
theorem dX3_takeOfBound_16 : decode cX3_takeOfBound 16 = .ok (.ifCond .ne 5, 3) := by decide +kernel
theorem dX3_takeOfBound_19 : decode cX3_takeOfBound 19 = .ok (.iconst 0, 1) := by decide +kernel
theorem dX3_takeOfBound_20 : decode cX3_takeOfBound 20 = .ok (.ireturn, 1) := by decide +kernel
theorem dX3_takeOfBound_21 : decode cX3_takeOfBound 21 = .ok (.aload_n 0, 1) := by decide +kernel
theorem dX3_takeOfBound_22 : decode cX3_takeOfBound 22 = .ok (.iload_n 1, 1) := by decide +kernel
theorem dX3_takeOfBound_23 : decode cX3_takeOfBound 23 = .ok (.invokevirtual 48, 3) := by decide +kernel
theorem dX3_takeOfBound_26 : decode cX3_takeOfBound 26 = .ok (.aload_n 0, 1) := by decide +kernel
theorem dX3_takeOfBound_27 : decode cX3_takeOfBound 27 = .ok (.getfield 19, 3) := by decide +kernel
theorem dX3_takeOfBound_30 : decode cX3_takeOfBound 30 = .ok (.istore_n 2, 1) := by decide +kernel
theorem dX3_takeOfBound_31 : decode cX3_takeOfBound 31 = .ok (.aload_n 0, 1) := by decide +kernel
theorem dX3_takeOfBound_32 : decode cX3_takeOfBound 32 = .ok (.getfield 22, 3) := by decide +kernel
theorem dX3_takeOfBound_35 : decode cX3_takeOfBound 35 = .ok (.istore_n 3, 1) := by decide +kernel
theorem dX3_takeOfBound_36 : decode cX3_takeOfBound 36 = .ok (.iload_n 3, 1) := by decide +kernel
theorem dX3_takeOfBound_37 : decode cX3_takeOfBound 37 = .ok (.iconst 3, 1) := by decide +kernel
theorem dX3_takeOfBound_38 : decode cX3_takeOfBound 38 = .ok (.if_icmp .ge 17, 3) := by decide +kernel
theorem dX3_takeOfBound_41 : decode cX3_takeOfBound 41 = .ok (.iload_n 2, 1) := by decide +kernel
theorem dX3_takeOfBound_42 : decode cX3_takeOfBound 42 = .ok (.bipush 10, 2) := by decide +kernel
theorem dX3_takeOfBound_44 : decode cX3_takeOfBound 44 = .ok (.imul, 1) := by decide +kernel
theorem dX3_takeOfBound_45 : decode cX3_takeOfBound 45 = .ok (.bipush 9, 2) := by decide +kernel
theorem dX3_takeOfBound_47 : decode cX3_takeOfBound 47 = .ok (.iadd, 1) := by decide +kernel
theorem dX3_takeOfBound_48 : decode cX3_takeOfBound 48 = .ok (.istore_n 2, 1) := by decide +kernel
theorem dX3_takeOfBound_49 : decode cX3_takeOfBound 49 = .ok (.iinc 3 1, 3) := by decide +kernel
theorem dX3_takeOfBound_52 : decode cX3_takeOfBound 52 = .ok (.goto (-16), 3) := by decide +kernel
theorem dX3_takeOfBound_55 : decode cX3_takeOfBound 55 = .ok (.iload_n 2, 1) := by decide +kernel
theorem dX3_takeOfBound_56 : decode cX3_takeOfBound 56 = .ok (.aload_n 0, 1) := by decide +kernel
theorem dX3_takeOfBound_57 : decode cX3_takeOfBound 57 = .ok (.invokevirtual 40, 3) := by decide +kernel
theorem dX3_takeOfBound_60 : decode cX3_takeOfBound 60 = .ok (.if_icmp .le 7, 3) := by decide +kernel
theorem dX3_takeOfBound_63 : decode cX3_takeOfBound 63 = .ok (.iconst 1, 1) := by decide +kernel
theorem dX3_takeOfBound_64 : decode cX3_takeOfBound 64 = .ok (.goto 4, 3) := by decide +kernel
theorem dX3_takeOfBound_67 : decode cX3_takeOfBound 67 = .ok (.iconst 0, 1) := by decide +kernel
theorem dX3_takeOfBound_68 : decode cX3_takeOfBound 68 = .ok (.ireturn, 1) := by decide +kernel
theorem dX3_takeOfGive_0 : decode cX3_takeOfGive 0 = .ok (.aload_n 0, 1) := by decide +kernel
theorem dX3_takeOfGive_1 : decode cX3_takeOfGive 1 = .ok (.getfield 22, 3) := by decide +kernel
theorem dX3_takeOfGive_4 : decode cX3_takeOfGive 4 = .ok (.iconst 2, 1) := by decide +kernel
theorem dX3_takeOfGive_5 : decode cX3_takeOfGive 5 = .ok (.if_icmp .eq 18, 3) := by decide +kernel
theorem dX3_takeOfGive_8 : decode cX3_takeOfGive 8 = .ok (.aload_n 0, 1) := by decide +kernel
theorem dX3_takeOfGive_9 : decode cX3_takeOfGive 9 = .ok (.getfield 22, 3) := by decide +kernel
theorem dX3_takeOfGive_12 : decode cX3_takeOfGive 12 = .ok (.iconst 1, 1) := by decide +kernel
theorem dX3_takeOfGive_13 : decode cX3_takeOfGive 13 = .ok (.if_icmp .ne 12, 3) := by decide +kernel
theorem dX3_takeOfGive_16 : decode cX3_takeOfGive 16 = .ok (.aload_n 0, 1) := by decide +kernel
theorem dX3_takeOfGive_17 : decode cX3_takeOfGive 17 = .ok (.getfield 19, 3) := by decide +kernel
theorem dX3_takeOfGive_20 : decode cX3_takeOfGive 20 = .ok (.ifCond .ne 5, 3) := by decide +kernel
theorem dX3_takeOfGive_23 : decode cX3_takeOfGive 23 = .ok (.iconst 0, 1) := by decide +kernel
theorem dX3_takeOfGive_24 : decode cX3_takeOfGive 24 = .ok (.ireturn, 1) := by decide +kernel
theorem dX3_takeOfGive_25 : decode cX3_takeOfGive 25 = .ok (.aload_n 0, 1) := by decide +kernel
theorem dX3_takeOfGive_26 : decode cX3_takeOfGive 26 = .ok (.iload_n 1, 1) := by decide +kernel
theorem dX3_takeOfGive_27 : decode cX3_takeOfGive 27 = .ok (.invokevirtual 48, 3) := by decide +kernel
theorem dX3_takeOfGive_30 : decode cX3_takeOfGive 30 = .ok (.iconst 1, 1) := by decide +kernel
theorem dX3_takeOfGive_31 : decode cX3_takeOfGive 31 = .ok (.ireturn, 1) := by decide +kernel
theorem dX4_begin_0 : decode cX4_begin 0 = .ok (.aload_n 0, 1) := by decide +kernel
theorem dX4_begin_1 : decode cX4_begin 1 = .ok (.getfield 9, 3) := by decide +kernel
theorem dX4_begin_4 : decode cX4_begin 4 = .ok (.iconst 0, 1) := by decide +kernel
theorem dX4_begin_5 : decode cX4_begin 5 = .ok (.invokestatic 15, 3) := by decide +kernel
theorem dX4_begin_8 : decode cX4_begin 8 = .ok (.aload_n 0, 1) := by decide +kernel
theorem dX4_begin_9 : decode cX4_begin 9 = .ok (.iconst 0, 1) := by decide +kernel
theorem dX4_begin_10 : decode cX4_begin 10 = .ok (.putfield 21, 3) := by decide +kernel
theorem dX4_begin_13 : decode cX4_begin 13 = .ok (.aload_n 0, 1) := by decide +kernel
theorem dX4_begin_14 : decode cX4_begin 14 = .ok (.iconst 0, 1) := by decide +kernel
theorem dX4_begin_15 : decode cX4_begin 15 = .ok (.putfield 25, 3) := by decide +kernel
theorem dX4_begin_18 : decode cX4_begin 18 = .ok (.aload_n 0, 1) := by decide +kernel
theorem dX4_begin_19 : decode cX4_begin 19 = .ok (.iconst 1, 1) := by decide +kernel
theorem dX4_begin_20 : decode cX4_begin 20 = .ok (.putfield 28, 3) := by decide +kernel
theorem dX4_begin_23 : decode cX4_begin 23 = .ok (.return_, 1) := by decide +kernel
theorem dX4_init_0 : decode cX4_init 0 = .ok (.aload_n 0, 1) := by decide +kernel
theorem dX4_init_1 : decode cX4_init 1 = .ok (.invokespecial 3, 3) := by decide +kernel
theorem dX4_init_4 : decode cX4_init 4 = .ok (.aload_n 0, 1) := by decide +kernel
theorem dX4_init_5 : decode cX4_init 5 = .ok (.bipush 24, 2) := by decide +kernel
theorem dX4_init_7 : decode cX4_init 7 = .ok (.newarray .int, 2) := by decide +kernel
theorem dX4_init_9 : decode cX4_init 9 = .ok (.putfield 9, 3) := by decide +kernel
theorem dX4_init_12 : decode cX4_init 12 = .ok (.return_, 1) := by decide +kernel
theorem dX4_isDone_0 : decode cX4_isDone 0 = .ok (.aload_n 0, 1) := by decide +kernel
theorem dX4_isDone_1 : decode cX4_isDone 1 = .ok (.getfield 21, 3) := by decide +kernel
theorem dX4_isDone_4 : decode cX4_isDone 4 = .ok (.iconst 2, 1) := by decide +kernel
theorem dX4_isDone_5 : decode cX4_isDone 5 = .ok (.if_icmp .ne 15, 3) := by decide +kernel
theorem dX4_isDone_8 : decode cX4_isDone 8 = .ok (.aload_n 0, 1) := by decide +kernel
theorem dX4_isDone_9 : decode cX4_isDone 9 = .ok (.getfield 25, 3) := by decide +kernel
theorem dX4_isDone_12 : decode cX4_isDone 12 = .ok (.iconst 1, 1) := by decide +kernel
theorem dX4_isDone_13 : decode cX4_isDone 13 = .ok (.if_icmp .ne 7, 3) := by decide +kernel
theorem dX4_isDone_16 : decode cX4_isDone 16 = .ok (.iconst 1, 1) := by decide +kernel
theorem dX4_isDone_17 : decode cX4_isDone 17 = .ok (.goto 4, 3) := by decide +kernel
theorem dX4_isDone_20 : decode cX4_isDone 20 = .ok (.iconst 0, 1) := by decide +kernel
theorem dX4_isDone_21 : decode cX4_isDone 21 = .ok (.ireturn, 1) := by decide +kernel
theorem dX4_take_0 : decode cX4_take 0 = .ok (.aload_n 0, 1) := by decide +kernel
theorem dX4_take_1 : decode cX4_take 1 = .ok (.getfield 21, 3) := by decide +kernel
theorem dX4_take_4 : decode cX4_take 4 = .ok (.ifCond .ne 9, 3) := by decide +kernel
theorem dX4_take_7 : decode cX4_take 7 = .ok (.aload_n 0, 1) := by decide +kernel
theorem dX4_take_8 : decode cX4_take 8 = .ok (.iload_n 1, 1) := by decide +kernel
theorem dX4_take_9 : decode cX4_take 9 = .ok (.invokevirtual 31, 3) := by decide +kernel
theorem dX4_take_12 : decode cX4_take 12 = .ok (.ireturn, 1) := by decide +kernel
theorem dX4_take_13 : decode cX4_take 13 = .ok (.iload_n 1, 1) := by decide +kernel
theorem dX4_take_14 : decode cX4_take 14 = .ok (.invokestatic 35, 3) := by decide +kernel
theorem dX4_take_17 : decode cX4_take 17 = .ok (.istore_n 2, 1) := by decide +kernel
theorem dX4_take_18 : decode cX4_take 18 = .ok (.iload_n 2, 1) := by decide +kernel
theorem dX4_take_19 : decode cX4_take 19 = .ok (.iconst (-1), 1) := by decide +kernel
theorem dX4_take_20 : decode cX4_take 20 = .ok (.if_icmp .eq 9, 3) := by decide +kernel
theorem dX4_take_23 : decode cX4_take 23 = .ok (.aload_n 0, 1) := by decide +kernel
theorem dX4_take_24 : decode cX4_take 24 = .ok (.iload_n 2, 1) := by decide +kernel
theorem dX4_take_25 : decode cX4_take 25 = .ok (.invokevirtual 39, 3) := by decide +kernel
theorem dX4_take_28 : decode cX4_take 28 = .ok (.ireturn, 1) := by decide +kernel
theorem dX4_take_29 : decode cX4_take 29 = .ok (.aload_n 0, 1) := by decide +kernel
theorem dX4_take_30 : decode cX4_take 30 = .ok (.getfield 21, 3) := by decide +kernel
theorem dX4_take_33 : decode cX4_take 33 = .ok (.iconst 2, 1) := by decide +kernel
theorem dX4_take_34 : decode cX4_take 34 = .ok (.if_icmp .ne 15, 3) := by decide +kernel
theorem dX4_take_37 : decode cX4_take 37 = .ok (.aload_n 0, 1) := by decide +kernel
theorem dX4_take_38 : decode cX4_take 38 = .ok (.iload_n 1, 1) := by decide +kernel
theorem dX4_take_39 : decode cX4_take 39 = .ok (.invokevirtual 42, 3) := by decide +kernel
theorem dX4_take_42 : decode cX4_take 42 = .ok (.ifCond .eq 7, 3) := by decide +kernel
theorem dX4_take_45 : decode cX4_take 45 = .ok (.iconst 1, 1) := by decide +kernel
theorem dX4_take_46 : decode cX4_take 46 = .ok (.goto 4, 3) := by decide +kernel
theorem dX4_take_49 : decode cX4_take 49 = .ok (.iconst 0, 1) := by decide +kernel
theorem dX4_take_50 : decode cX4_take 50 = .ok (.ireturn, 1) := by decide +kernel
theorem dX4_takeBetween_0 : decode cX4_takeBetween 0 = .ok (.iload_n 1, 1) := by decide +kernel
theorem dX4_takeBetween_1 : decode cX4_takeBetween 1 = .ok (.bipush 43, 2) := by decide +kernel
theorem dX4_takeBetween_3 : decode cX4_takeBetween 3 = .ok (.if_icmp .ne 24, 3) := by decide +kernel
theorem dX4_takeBetween_6 : decode cX4_takeBetween 6 = .ok (.aload_n 0, 1) := by decide +kernel
theorem dX4_takeBetween_7 : decode cX4_takeBetween 7 = .ok (.getfield 28, 3) := by decide +kernel
theorem dX4_takeBetween_10 : decode cX4_takeBetween 10 = .ok (.iconst 4, 1) := by decide +kernel
theorem dX4_takeBetween_11 : decode cX4_takeBetween 11 = .ok (.if_icmp .ge 16, 3) := by decide +kernel
theorem dX4_takeBetween_14 : decode cX4_takeBetween 14 = .ok (.aload_n 0, 1) := by decide +kernel
theorem dX4_takeBetween_15 : decode cX4_takeBetween 15 = .ok (.dup, 1) := by decide +kernel
theorem dX4_takeBetween_16 : decode cX4_takeBetween 16 = .ok (.getfield 28, 3) := by decide +kernel
theorem dX4_takeBetween_19 : decode cX4_takeBetween 19 = .ok (.iconst 1, 1) := by decide +kernel
theorem dX4_takeBetween_20 : decode cX4_takeBetween 20 = .ok (.iadd, 1) := by decide +kernel
theorem dX4_takeBetween_21 : decode cX4_takeBetween 21 = .ok (.putfield 28, 3) := by decide +kernel
theorem dX4_takeBetween_24 : decode cX4_takeBetween 24 = .ok (.goto 31, 3) := by decide +kernel
theorem dX4_takeBetween_27 : decode cX4_takeBetween 27 = .ok (.iload_n 1, 1) := by decide +kernel
theorem dX4_takeBetween_28 : decode cX4_takeBetween 28 = .ok (.bipush 47, 2) := by decide +kernel
theorem dX4_takeBetween_30 : decode cX4_takeBetween 30 = .ok (.if_icmp .ne 23, 3) := by decide +kernel
theorem dX4_takeBetween_33 : decode cX4_takeBetween 33 = .ok (.aload_n 0, 1) := by decide +kernel
theorem dX4_takeBetween_34 : decode cX4_takeBetween 34 = .ok (.getfield 25, 3) := by decide +kernel
theorem dX4_takeBetween_37 : decode cX4_takeBetween 37 = .ok (.ifCond .ne 16, 3) := by decide +kernel
theorem dX4_takeBetween_40 : decode cX4_takeBetween 40 = .ok (.aload_n 0, 1) := by decide +kernel
theorem dX4_takeBetween_41 : decode cX4_takeBetween 41 = .ok (.iconst 1, 1) := by decide +kernel
theorem dX4_takeBetween_42 : decode cX4_takeBetween 42 = .ok (.putfield 25, 3) := by decide +kernel
theorem dX4_takeBetween_45 : decode cX4_takeBetween 45 = .ok (.aload_n 0, 1) := by decide +kernel
theorem dX4_takeBetween_46 : decode cX4_takeBetween 46 = .ok (.iconst 1, 1) := by decide +kernel
theorem dX4_takeBetween_47 : decode cX4_takeBetween 47 = .ok (.putfield 28, 3) := by decide +kernel
theorem dX4_takeBetween_50 : decode cX4_takeBetween 50 = .ok (.goto 5, 3) := by decide +kernel
theorem dX4_takeBetween_53 : decode cX4_takeBetween 53 = .ok (.iconst 0, 1) := by decide +kernel
theorem dX4_takeBetween_54 : decode cX4_takeBetween 54 = .ok (.ireturn, 1) := by decide +kernel
theorem dX4_takeBetween_55 : decode cX4_takeBetween 55 = .ok (.aload_n 0, 1) := by decide +kernel
theorem dX4_takeBetween_56 : decode cX4_takeBetween 56 = .ok (.iconst 0, 1) := by decide +kernel
theorem dX4_takeBetween_57 : decode cX4_takeBetween 57 = .ok (.putfield 21, 3) := by decide +kernel
theorem dX4_takeBetween_60 : decode cX4_takeBetween 60 = .ok (.iconst 1, 1) := by decide +kernel
theorem dX4_takeBetween_61 : decode cX4_takeBetween 61 = .ok (.ireturn, 1) := by decide +kernel
theorem dX4_takeColour_0 : decode cX4_takeColour 0 = .ok (.iload_n 1, 1) := by decide +kernel
theorem dX4_takeColour_1 : decode cX4_takeColour 1 = .ok (.invokestatic 45, 3) := by decide +kernel
theorem dX4_takeColour_4 : decode cX4_takeColour 4 = .ok (.istore_n 2, 1) := by decide +kernel
theorem dX4_takeColour_5 : decode cX4_takeColour 5 = .ok (.iload_n 2, 1) := by decide +kernel
theorem dX4_takeColour_6 : decode cX4_takeColour 6 = .ok (.iconst (-1), 1) := by decide +kernel
theorem dX4_takeColour_7 : decode cX4_takeColour 7 = .ok (.if_icmp .ne 5, 3) := by decide +kernel
theorem dX4_takeColour_10 : decode cX4_takeColour 10 = .ok (.iconst 0, 1) := by decide +kernel
theorem dX4_takeColour_11 : decode cX4_takeColour 11 = .ok (.ireturn, 1) := by decide +kernel
theorem dX4_takeColour_12 : decode cX4_takeColour 12 = .ok (.aload_n 0, 1) := by decide +kernel
theorem dX4_takeColour_13 : decode cX4_takeColour 13 = .ok (.iload_n 2, 1) := by decide +kernel
theorem dX4_takeColour_14 : decode cX4_takeColour 14 = .ok (.putfield 48, 3) := by decide +kernel
theorem dX4_takeColour_17 : decode cX4_takeColour 17 = .ok (.aload_n 0, 1) := by decide +kernel
theorem dX4_takeColour_18 : decode cX4_takeColour 18 = .ok (.iconst (-1), 1) := by decide +kernel
theorem dX4_takeColour_19 : decode cX4_takeColour 19 = .ok (.putfield 51, 3) := by decide +kernel
theorem dX4_takeColour_22 : decode cX4_takeColour 22 = .ok (.aload_n 0, 1) := by decide +kernel
theorem dX4_takeColour_23 : decode cX4_takeColour 23 = .ok (.iconst 1, 1) := by decide +kernel
theorem dX4_takeColour_24 : decode cX4_takeColour 24 = .ok (.putfield 21, 3) := by decide +kernel
theorem dX4_takeColour_27 : decode cX4_takeColour 27 = .ok (.iconst 1, 1) := by decide +kernel
theorem dX4_takeColour_28 : decode cX4_takeColour 28 = .ok (.ireturn, 1) := by decide +kernel
theorem dX4_takePart_0 : decode cX4_takePart 0 = .ok (.iload_n 1, 1) := by decide +kernel
theorem dX4_takePart_1 : decode cX4_takePart 1 = .ok (.aload_n 0, 1) := by decide +kernel
theorem dX4_takePart_2 : decode cX4_takePart 2 = .ok (.getfield 51, 3) := by decide +kernel
theorem dX4_takePart_5 : decode cX4_takePart 5 = .ok (.if_icmp .le 8, 3) := by decide +kernel
theorem dX4_takePart_8 : decode cX4_takePart 8 = .ok (.iload_n 1, 1) := by decide +kernel
theorem dX4_takePart_9 : decode cX4_takePart 9 = .ok (.iconst 4, 1) := by decide +kernel
theorem dX4_takePart_10 : decode cX4_takePart 10 = .ok (.if_icmp .lt 5, 3) := by decide +kernel
theorem dX4_takePart_13 : decode cX4_takePart 13 = .ok (.iconst 0, 1) := by decide +kernel
theorem dX4_takePart_14 : decode cX4_takePart 14 = .ok (.ireturn, 1) := by decide +kernel
theorem dX4_takePart_15 : decode cX4_takePart 15 = .ok (.aload_n 0, 1) := by decide +kernel
theorem dX4_takePart_16 : decode cX4_takePart 16 = .ok (.iload_n 1, 1) := by decide +kernel
theorem dX4_takePart_17 : decode cX4_takePart 17 = .ok (.putfield 51, 3) := by decide +kernel
theorem dX4_takePart_20 : decode cX4_takePart 20 = .ok (.aload_n 0, 1) := by decide +kernel
theorem dX4_takePart_21 : decode cX4_takePart 21 = .ok (.getfield 9, 3) := by decide +kernel
theorem dX4_takePart_24 : decode cX4_takePart 24 = .ok (.aload_n 0, 1) := by decide +kernel
theorem dX4_takePart_25 : decode cX4_takePart 25 = .ok (.getfield 25, 3) := by decide +kernel
theorem dX4_takePart_28 : decode cX4_takePart 28 = .ok (.bipush 12, 2) := by decide +kernel
theorem dX4_takePart_30 : decode cX4_takePart 30 = .ok (.imul, 1) := by decide +kernel
theorem dX4_takePart_31 : decode cX4_takePart 31 = .ok (.aload_n 0, 1) := by decide +kernel
theorem dX4_takePart_32 : decode cX4_takePart 32 = .ok (.getfield 51, 3) := by decide +kernel
theorem dX4_takePart_35 : decode cX4_takePart 35 = .ok (.iconst 3, 1) := by decide +kernel
theorem dX4_takePart_36 : decode cX4_takePart 36 = .ok (.imul, 1) := by decide +kernel
theorem dX4_takePart_37 : decode cX4_takePart 37 = .ok (.iadd, 1) := by decide +kernel
theorem dX4_takePart_38 : decode cX4_takePart 38 = .ok (.aload_n 0, 1) := by decide +kernel
theorem dX4_takePart_39 : decode cX4_takePart 39 = .ok (.getfield 48, 3) := by decide +kernel
theorem dX4_takePart_42 : decode cX4_takePart 42 = .ok (.iadd, 1) := by decide +kernel
theorem dX4_takePart_43 : decode cX4_takePart 43 = .ok (.dup2, 1) := by decide +kernel
theorem dX4_takePart_44 : decode cX4_takePart 44 = .ok (.iaload, 1) := by decide +kernel
theorem dX4_takePart_45 : decode cX4_takePart 45 = .ok (.iconst 1, 1) := by decide +kernel
theorem dX4_takePart_46 : decode cX4_takePart 46 = .ok (.iadd, 1) := by decide +kernel
theorem dX4_takePart_47 : decode cX4_takePart 47 = .ok (.iastore, 1) := by decide +kernel
theorem dX4_takePart_48 : decode cX4_takePart 48 = .ok (.aload_n 0, 1) := by decide +kernel
theorem dX4_takePart_49 : decode cX4_takePart 49 = .ok (.iconst 2, 1) := by decide +kernel
theorem dX4_takePart_50 : decode cX4_takePart 50 = .ok (.putfield 21, 3) := by decide +kernel
theorem dX4_takePart_53 : decode cX4_takePart 53 = .ok (.iconst 1, 1) := by decide +kernel
theorem dX4_takePart_54 : decode cX4_takePart 54 = .ok (.ireturn, 1) := by decide +kernel
theorem dX5_append_0 : decode cX5_append 0 = .ok (.iconst 0, 1) := by decide +kernel
theorem dX5_append_1 : decode cX5_append 1 = .ok (.istore 4, 2) := by decide +kernel
theorem dX5_append_3 : decode cX5_append 3 = .ok (.iload 4, 2) := by decide +kernel
theorem dX5_append_5 : decode cX5_append 5 = .ok (.iload_n 3, 1) := by decide +kernel
theorem dX5_append_6 : decode cX5_append 6 = .ok (.if_icmp .ge 43, 3) := by decide +kernel
theorem dX5_append_9 : decode cX5_append 9 = .ok (.aload_n 0, 1) := by decide +kernel
theorem dX5_append_10 : decode cX5_append 10 = .ok (.getfield 19, 3) := by decide +kernel
theorem dX5_append_13 : decode cX5_append 13 = .ok (.bipush 40, 2) := by decide +kernel
theorem dX5_append_15 : decode cX5_append 15 = .ok (.if_icmp .ge 34, 3) := by decide +kernel
theorem dX5_append_18 : decode cX5_append 18 = .ok (.aload_n 0, 1) := by decide +kernel
theorem dX5_append_19 : decode cX5_append 19 = .ok (.getfield 9, 3) := by decide +kernel
theorem dX5_append_22 : decode cX5_append 22 = .ok (.aload_n 0, 1) := by decide +kernel
theorem dX5_append_23 : decode cX5_append 23 = .ok (.getfield 19, 3) := by decide +kernel
theorem dX5_append_26 : decode cX5_append 26 = .ok (.lload_n 1, 1) := by decide +kernel
theorem dX5_append_27 : decode cX5_append 27 = .ok (.iload 4, 2) := by decide +kernel
theorem dX5_append_29 : decode cX5_append 29 = .ok (.invokestatic 15, 3) := by decide +kernel
theorem dX5_append_32 : decode cX5_append 32 = .ok (.iastore, 1) := by decide +kernel
theorem dX5_append_33 : decode cX5_append 33 = .ok (.aload_n 0, 1) := by decide +kernel
theorem dX5_append_34 : decode cX5_append 34 = .ok (.dup, 1) := by decide +kernel
theorem dX5_append_35 : decode cX5_append 35 = .ok (.getfield 19, 3) := by decide +kernel
theorem dX5_append_38 : decode cX5_append 38 = .ok (.iconst 1, 1) := by decide +kernel
theorem dX5_append_39 : decode cX5_append 39 = .ok (.iadd, 1) := by decide +kernel
theorem dX5_append_40 : decode cX5_append 40 = .ok (.putfield 19, 3) := by decide +kernel
theorem dX5_append_43 : decode cX5_append 43 = .ok (.iinc 4 1, 3) := by decide +kernel
theorem dX5_append_46 : decode cX5_append 46 = .ok (.goto (-43), 3) := by decide +kernel
theorem dX5_append_49 : decode cX5_append 49 = .ok (.return_, 1) := by decide +kernel
theorem dX5_codeIn_0 : decode cX5_codeIn 0 = .ok (.lload_n 0, 1) := by decide +kernel
theorem dX5_codeIn_1 : decode cX5_codeIn 1 = .ok (.bipush 8, 2) := by decide +kernel
theorem dX5_codeIn_3 : decode cX5_codeIn 3 = .ok (.iload_n 2, 1) := by decide +kernel
theorem dX5_codeIn_4 : decode cX5_codeIn 4 = .ok (.imul, 1) := by decide +kernel
theorem dX5_codeIn_5 : decode cX5_codeIn 5 = .ok (.lushr, 1) := by decide +kernel
theorem dX5_codeIn_6 : decode cX5_codeIn 6 = .ok (.l2i, 1) := by decide +kernel
theorem dX5_codeIn_7 : decode cX5_codeIn 7 = .ok (.sipush 255, 3) := by decide +kernel
theorem dX5_codeIn_10 : decode cX5_codeIn 10 = .ok (.iand, 1) := by decide +kernel
theorem dX5_codeIn_11 : decode cX5_codeIn 11 = .ok (.ireturn, 1) := by decide +kernel
theorem dX5_init_0 : decode cX5_init 0 = .ok (.aload_n 0, 1) := by decide +kernel
theorem dX5_init_1 : decode cX5_init 1 = .ok (.invokespecial 3, 3) := by decide +kernel
theorem dX5_init_4 : decode cX5_init 4 = .ok (.aload_n 0, 1) := by decide +kernel
theorem dX5_init_5 : decode cX5_init 5 = .ok (.bipush 40, 2) := by decide +kernel
theorem dX5_init_7 : decode cX5_init 7 = .ok (.newarray .int, 2) := by decide +kernel
theorem dX5_init_9 : decode cX5_init 9 = .ok (.putfield 9, 3) := by decide +kernel
theorem dX5_init_12 : decode cX5_init 12 = .ok (.return_, 1) := by decide +kernel
theorem dX5_isWhole_0 : decode cX5_isWhole 0 = .ok (.aload_n 0, 1) := by decide +kernel
theorem dX5_isWhole_1 : decode cX5_isWhole 1 = .ok (.aload_n 1, 1) := by decide +kernel
theorem dX5_isWhole_2 : decode cX5_isWhole 2 = .ok (.invokevirtual 32, 3) := by decide +kernel
theorem dX5_isWhole_5 : decode cX5_isWhole 5 = .ok (.aload_n 0, 1) := by decide +kernel
theorem dX5_isWhole_6 : decode cX5_isWhole 6 = .ok (.getfield 19, 3) := by decide +kernel
theorem dX5_isWhole_9 : decode cX5_isWhole 9 = .ok (.if_icmp .ne 14, 3) := by decide +kernel
theorem dX5_isWhole_12 : decode cX5_isWhole 12 = .ok (.aload_n 1, 1) := by decide +kernel
theorem dX5_isWhole_13 : decode cX5_isWhole 13 = .ok (.invokevirtual 36, 3) := by decide +kernel
theorem dX5_isWhole_16 : decode cX5_isWhole 16 = .ok (.ifCond .eq 7, 3) := by decide +kernel
theorem dX5_isWhole_19 : decode cX5_isWhole 19 = .ok (.iconst 1, 1) := by decide +kernel
theorem dX5_isWhole_20 : decode cX5_isWhole 20 = .ok (.goto 4, 3) := by decide +kernel
theorem dX5_isWhole_23 : decode cX5_isWhole 23 = .ok (.iconst 0, 1) := by decide +kernel
theorem dX5_isWhole_24 : decode cX5_isWhole 24 = .ok (.ireturn, 1) := by decide +kernel
theorem dX5_lettersIn_0 : decode cX5_lettersIn 0 = .ok (.iconst 0, 1) := by decide +kernel
theorem dX5_lettersIn_1 : decode cX5_lettersIn 1 = .ok (.istore_n 2, 1) := by decide +kernel
theorem dX5_lettersIn_2 : decode cX5_lettersIn 2 = .ok (.iconst 0, 1) := by decide +kernel
theorem dX5_lettersIn_3 : decode cX5_lettersIn 3 = .ok (.istore_n 3, 1) := by decide +kernel
theorem dX5_lettersIn_4 : decode cX5_lettersIn 4 = .ok (.iload_n 3, 1) := by decide +kernel
theorem dX5_lettersIn_5 : decode cX5_lettersIn 5 = .ok (.bipush 8, 2) := by decide +kernel
theorem dX5_lettersIn_7 : decode cX5_lettersIn 7 = .ok (.if_icmp .ge 43, 3) := by decide +kernel
theorem dX5_lettersIn_10 : decode cX5_lettersIn 10 = .ok (.lload_n 0, 1) := by decide +kernel
theorem dX5_lettersIn_11 : decode cX5_lettersIn 11 = .ok (.iload_n 3, 1) := by decide +kernel
theorem dX5_lettersIn_12 : decode cX5_lettersIn 12 = .ok (.invokestatic 15, 3) := by decide +kernel
theorem dX5_lettersIn_15 : decode cX5_lettersIn 15 = .ok (.istore 4, 2) := by decide +kernel
theorem dX5_lettersIn_17 : decode cX5_lettersIn 17 = .ok (.iload 4, 2) := by decide +kernel
theorem dX5_lettersIn_19 : decode cX5_lettersIn 19 = .ok (.bipush 126, 2) := by decide +kernel
theorem dX5_lettersIn_21 : decode cX5_lettersIn 21 = .ok (.if_icmp .gt 13, 3) := by decide +kernel
theorem dX5_lettersIn_24 : decode cX5_lettersIn 24 = .ok (.iload 4, 2) := by decide +kernel
theorem dX5_lettersIn_26 : decode cX5_lettersIn 26 = .ok (.ifCond .eq 10, 3) := by decide +kernel
theorem dX5_lettersIn_29 : decode cX5_lettersIn 29 = .ok (.iload_n 2, 1) := by decide +kernel
theorem dX5_lettersIn_30 : decode cX5_lettersIn 30 = .ok (.iload_n 3, 1) := by decide +kernel
theorem dX5_lettersIn_31 : decode cX5_lettersIn 31 = .ok (.if_icmp .ge 5, 3) := by decide +kernel
theorem dX5_lettersIn_34 : decode cX5_lettersIn 34 = .ok (.iconst (-1), 1) := by decide +kernel
theorem dX5_lettersIn_35 : decode cX5_lettersIn 35 = .ok (.ireturn, 1) := by decide +kernel
theorem dX5_lettersIn_36 : decode cX5_lettersIn 36 = .ok (.iload 4, 2) := by decide +kernel
theorem dX5_lettersIn_38 : decode cX5_lettersIn 38 = .ok (.ifCond .eq 6, 3) := by decide +kernel
theorem dX5_lettersIn_41 : decode cX5_lettersIn 41 = .ok (.iinc 2 1, 3) := by decide +kernel
theorem dX5_lettersIn_44 : decode cX5_lettersIn 44 = .ok (.iinc 3 1, 3) := by decide +kernel
theorem dX5_lettersIn_47 : decode cX5_lettersIn 47 = .ok (.goto (-43), 3) := by decide +kernel
theorem dX5_lettersIn_50 : decode cX5_lettersIn 50 = .ok (.iload_n 2, 1) := by decide +kernel
theorem dX5_lettersIn_51 : decode cX5_lettersIn 51 = .ok (.ireturn, 1) := by decide +kernel
theorem dX5_standing_0 : decode cX5_standing 0 = .ok (.aload_n 1, 1) := by decide +kernel
theorem dX5_standing_1 : decode cX5_standing 1 = .ok (.invokevirtual 23, 3) := by decide +kernel
theorem dX5_standing_4 : decode cX5_standing 4 = .ok (.iconst 0, 1) := by decide +kernel
theorem dX5_standing_5 : decode cX5_standing 5 = .ok (.istore_n 2, 1) := by decide +kernel
theorem dX5_standing_6 : decode cX5_standing 6 = .ok (.iload_n 2, 1) := by decide +kernel
theorem dX5_standing_7 : decode cX5_standing 7 = .ok (.aload_n 0, 1) := by decide +kernel
theorem dX5_standing_8 : decode cX5_standing 8 = .ok (.getfield 19, 3) := by decide +kernel
theorem dX5_standing_11 : decode cX5_standing 11 = .ok (.if_icmp .ge 24, 3) := by decide +kernel
theorem dX5_standing_14 : decode cX5_standing 14 = .ok (.aload_n 1, 1) := by decide +kernel
theorem dX5_standing_15 : decode cX5_standing 15 = .ok (.aload_n 0, 1) := by decide +kernel
theorem dX5_standing_16 : decode cX5_standing 16 = .ok (.getfield 9, 3) := by decide +kernel
theorem dX5_standing_19 : decode cX5_standing 19 = .ok (.iload_n 2, 1) := by decide +kernel
theorem dX5_standing_20 : decode cX5_standing 20 = .ok (.iaload, 1) := by decide +kernel
theorem dX5_standing_21 : decode cX5_standing 21 = .ok (.invokevirtual 28, 3) := by decide +kernel
theorem dX5_standing_24 : decode cX5_standing 24 = .ok (.ifCond .ne 5, 3) := by decide +kernel
theorem dX5_standing_27 : decode cX5_standing 27 = .ok (.iload_n 2, 1) := by decide +kernel
theorem dX5_standing_28 : decode cX5_standing 28 = .ok (.ireturn, 1) := by decide +kernel
theorem dX5_standing_29 : decode cX5_standing 29 = .ok (.iinc 2 1, 3) := by decide +kernel
theorem dX5_standing_32 : decode cX5_standing 32 = .ok (.goto (-26), 3) := by decide +kernel
theorem dX5_standing_35 : decode cX5_standing 35 = .ok (.aload_n 0, 1) := by decide +kernel
theorem dX5_standing_36 : decode cX5_standing 36 = .ok (.getfield 19, 3) := by decide +kernel
theorem dX5_standing_39 : decode cX5_standing 39 = .ok (.ireturn, 1) := by decide +kernel
theorem dX6_draw_0 : decode cX6_draw 0 = .ok (.aload_n 0, 1) := by decide +kernel
theorem dX6_draw_1 : decode cX6_draw 1 = .ok (.ldc2_w 11, 3) := by decide +kernel
theorem dX6_draw_4 : decode cX6_draw 4 = .ok (.aload_n 0, 1) := by decide +kernel
theorem dX6_draw_5 : decode cX6_draw 5 = .ok (.getfield 13, 3) := by decide +kernel
theorem dX6_draw_8 : decode cX6_draw 8 = .ok (.lmul, 1) := by decide +kernel
theorem dX6_draw_9 : decode cX6_draw 9 = .ok (.ldc2_w 17, 3) := by decide +kernel
theorem dX6_draw_12 : decode cX6_draw 12 = .ok (.ladd, 1) := by decide +kernel
theorem dX6_draw_13 : decode cX6_draw 13 = .ok (.ldc2_w 19, 3) := by decide +kernel
theorem dX6_draw_16 : decode cX6_draw 16 = .ok (.lrem, 1) := by decide +kernel
theorem dX6_draw_17 : decode cX6_draw 17 = .ok (.putfield 13, 3) := by decide +kernel
theorem dX6_draw_20 : decode cX6_draw 20 = .ok (.iload_n 1, 1) := by decide +kernel
theorem dX6_draw_21 : decode cX6_draw 21 = .ok (.iconst 1, 1) := by decide +kernel
theorem dX6_draw_22 : decode cX6_draw 22 = .ok (.if_icmp .ge 7, 3) := by decide +kernel
theorem dX6_draw_25 : decode cX6_draw 25 = .ok (.iconst 0, 1) := by decide +kernel
theorem dX6_draw_26 : decode cX6_draw 26 = .ok (.goto 15, 3) := by decide +kernel
theorem dX6_draw_29 : decode cX6_draw 29 = .ok (.aload_n 0, 1) := by decide +kernel
theorem dX6_draw_30 : decode cX6_draw 30 = .ok (.getfield 13, 3) := by decide +kernel
theorem dX6_draw_33 : decode cX6_draw 33 = .ok (.ldc2_w 21, 3) := by decide +kernel
theorem dX6_draw_36 : decode cX6_draw 36 = .ok (.ldiv, 1) := by decide +kernel
theorem dX6_draw_37 : decode cX6_draw 37 = .ok (.iload_n 1, 1) := by decide +kernel
theorem dX6_draw_38 : decode cX6_draw 38 = .ok (.i2l, 1) := by decide +kernel
theorem dX6_draw_39 : decode cX6_draw 39 = .ok (.lrem, 1) := by decide +kernel
theorem dX6_draw_40 : decode cX6_draw 40 = .ok (.l2i, 1) := by decide +kernel
theorem dX6_draw_41 : decode cX6_draw 41 = .ok (.ireturn, 1) := by decide +kernel
theorem dX6_init_0 : decode cX6_init 0 = .ok (.aload_n 0, 1) := by decide +kernel
theorem dX6_init_1 : decode cX6_init 1 = .ok (.invokespecial 3, 3) := by decide +kernel
theorem dX6_init_4 : decode cX6_init 4 = .ok (.return_, 1) := by decide +kernel
theorem dX6_paintOne_0 : decode cX6_paintOne 0 = .ok (.aload_n 0, 1) := by decide +kernel
theorem dX6_paintOne_1 : decode cX6_paintOne 1 = .ok (.sipush 401, 3) := by decide +kernel
theorem dX6_paintOne_4 : decode cX6_paintOne 4 = .ok (.invokevirtual 23, 3) := by decide +kernel
theorem dX6_paintOne_7 : decode cX6_paintOne 7 = .ok (.istore_n 3, 1) := by decide +kernel
theorem dX6_paintOne_8 : decode cX6_paintOne 8 = .ok (.aload_n 0, 1) := by decide +kernel
theorem dX6_paintOne_9 : decode cX6_paintOne 9 = .ok (.iconst 4, 1) := by decide +kernel
theorem dX6_paintOne_10 : decode cX6_paintOne 10 = .ok (.invokevirtual 23, 3) := by decide +kernel
theorem dX6_paintOne_13 : decode cX6_paintOne 13 = .ok (.istore 4, 2) := by decide +kernel
theorem dX6_paintOne_15 : decode cX6_paintOne 15 = .ok (.aload_n 1, 1) := by decide +kernel
theorem dX6_paintOne_16 : decode cX6_paintOne 16 = .ok (.iconst 0, 1) := by decide +kernel
theorem dX6_paintOne_17 : decode cX6_paintOne 17 = .ok (.iload_n 2, 1) := by decide +kernel
theorem dX6_paintOne_18 : decode cX6_paintOne 18 = .ok (.iload_n 3, 1) := by decide +kernel
theorem dX6_paintOne_19 : decode cX6_paintOne 19 = .ok (.iload 4, 2) := by decide +kernel
theorem dX6_paintOne_21 : decode cX6_paintOne 21 = .ok (.iconst (-1), 1) := by decide +kernel
theorem dX6_paintOne_22 : decode cX6_paintOne 22 = .ok (.iconst (-1), 1) := by decide +kernel
theorem dX6_paintOne_23 : decode cX6_paintOne 23 = .ok (.invokevirtual 27, 3) := by decide +kernel
theorem dX6_paintOne_26 : decode cX6_paintOne 26 = .ok (.istore 5, 2) := by decide +kernel
theorem dX6_paintOne_28 : decode cX6_paintOne 28 = .ok (.aload_n 1, 1) := by decide +kernel
theorem dX6_paintOne_29 : decode cX6_paintOne 29 = .ok (.iload 5, 2) := by decide +kernel
theorem dX6_paintOne_31 : decode cX6_paintOne 31 = .ok (.invokevirtual 33, 3) := by decide +kernel
theorem dX6_paintOne_34 : decode cX6_paintOne 34 = .ok (.ifCond .ne 4, 3) := by decide +kernel
theorem dX6_paintOne_37 : decode cX6_paintOne 37 = .ok (.return_, 1) := by decide +kernel
theorem dX6_paintOne_38 : decode cX6_paintOne 38 = .ok (.aload_n 1, 1) := by decide +kernel
theorem dX6_paintOne_39 : decode cX6_paintOne 39 = .ok (.iload 5, 2) := by decide +kernel
theorem dX6_paintOne_41 : decode cX6_paintOne 41 = .ok (.iconst 3, 1) := by decide +kernel
theorem dX6_paintOne_42 : decode cX6_paintOne 42 = .ok (.invokevirtual 37, 3) := by decide +kernel
theorem dX6_paintOne_45 : decode cX6_paintOne 45 = .ok (.ifCond .eq 8, 3) := by decide +kernel
theorem dX6_paintOne_48 : decode cX6_paintOne 48 = .ok (.bipush 15, 2) := by decide +kernel
theorem dX6_paintOne_50 : decode cX6_paintOne 50 = .ok (.goto 4, 3) := by decide +kernel
theorem dX6_paintOne_53 : decode cX6_paintOne 53 = .ok (.iconst 0, 1) := by decide +kernel
theorem dX6_paintOne_54 : decode cX6_paintOne 54 = .ok (.istore 6, 2) := by decide +kernel
theorem dX6_paintOne_56 : decode cX6_paintOne 56 = .ok (.aload_n 1, 1) := by decide +kernel
theorem dX6_paintOne_57 : decode cX6_paintOne 57 = .ok (.getfield 41, 3) := by decide +kernel
theorem dX6_paintOne_60 : decode cX6_paintOne 60 = .ok (.iload 5, 2) := by decide +kernel
theorem dX6_paintOne_62 : decode cX6_paintOne 62 = .ok (.aaload, 1) := by decide +kernel
theorem dX6_paintOne_63 : decode cX6_paintOne 63 = .ok (.astore 7, 2) := by decide +kernel
theorem dX6_paintOne_65 : decode cX6_paintOne 65 = .ok (.iconst 0, 1) := by decide +kernel
theorem dX6_paintOne_66 : decode cX6_paintOne 66 = .ok (.istore 8, 2) := by decide +kernel
theorem dX6_paintOne_68 : decode cX6_paintOne 68 = .ok (.iload 8, 2) := by decide +kernel
theorem dX6_paintOne_70 : decode cX6_paintOne 70 = .ok (.iconst 4, 1) := by decide +kernel
theorem dX6_paintOne_71 : decode cX6_paintOne 71 = .ok (.if_icmp .ge 63, 3) := by decide +kernel
theorem dX6_paintOne_74 : decode cX6_paintOne 74 = .ok (.aload 7, 2) := by decide +kernel
theorem dX6_paintOne_76 : decode cX6_paintOne 76 = .ok (.iload 8, 2) := by decide +kernel
theorem dX6_paintOne_78 : decode cX6_paintOne 78 = .ok (.iconst 3, 1) := by decide +kernel
theorem dX6_paintOne_79 : decode cX6_paintOne 79 = .ok (.imul, 1) := by decide +kernel
theorem dX6_paintOne_80 : decode cX6_paintOne 80 = .ok (.iconst 0, 1) := by decide +kernel
theorem dX6_paintOne_81 : decode cX6_paintOne 81 = .ok (.iadd, 1) := by decide +kernel
theorem dX6_paintOne_82 : decode cX6_paintOne 82 = .ok (.bipush 20, 2) := by decide +kernel
theorem dX6_paintOne_84 : decode cX6_paintOne 84 = .ok (.aload_n 0, 1) := by decide +kernel
theorem dX6_paintOne_85 : decode cX6_paintOne 85 = .ok (.bipush 40, 2) := by decide +kernel
theorem dX6_paintOne_87 : decode cX6_paintOne 87 = .ok (.invokevirtual 23, 3) := by decide +kernel
theorem dX6_paintOne_90 : decode cX6_paintOne 90 = .ok (.iadd, 1) := by decide +kernel
theorem dX6_paintOne_91 : decode cX6_paintOne 91 = .ok (.iload 6, 2) := by decide +kernel
theorem dX6_paintOne_93 : decode cX6_paintOne 93 = .ok (.iadd, 1) := by decide +kernel
theorem dX6_paintOne_94 : decode cX6_paintOne 94 = .ok (.iastore, 1) := by decide +kernel
theorem dX6_paintOne_95 : decode cX6_paintOne 95 = .ok (.aload 7, 2) := by decide +kernel
theorem dX6_paintOne_97 : decode cX6_paintOne 97 = .ok (.iload 8, 2) := by decide +kernel
theorem dX6_paintOne_99 : decode cX6_paintOne 99 = .ok (.iconst 3, 1) := by decide +kernel
theorem dX6_paintOne_100 : decode cX6_paintOne 100 = .ok (.imul, 1) := by decide +kernel
theorem dX6_paintOne_101 : decode cX6_paintOne 101 = .ok (.iconst 1, 1) := by decide +kernel
theorem dX6_paintOne_102 : decode cX6_paintOne 102 = .ok (.iadd, 1) := by decide +kernel
theorem dX6_paintOne_103 : decode cX6_paintOne 103 = .ok (.bipush 20, 2) := by decide +kernel
theorem dX6_paintOne_105 : decode cX6_paintOne 105 = .ok (.aload_n 0, 1) := by decide +kernel
theorem dX6_paintOne_106 : decode cX6_paintOne 106 = .ok (.bipush 40, 2) := by decide +kernel
theorem dX6_paintOne_108 : decode cX6_paintOne 108 = .ok (.invokevirtual 23, 3) := by decide +kernel
theorem dX6_paintOne_111 : decode cX6_paintOne 111 = .ok (.iadd, 1) := by decide +kernel
theorem dX6_paintOne_112 : decode cX6_paintOne 112 = .ok (.iastore, 1) := by decide +kernel
theorem dX6_paintOne_113 : decode cX6_paintOne 113 = .ok (.aload 7, 2) := by decide +kernel
theorem dX6_paintOne_115 : decode cX6_paintOne 115 = .ok (.iload 8, 2) := by decide +kernel
theorem dX6_paintOne_117 : decode cX6_paintOne 117 = .ok (.iconst 3, 1) := by decide +kernel
theorem dX6_paintOne_118 : decode cX6_paintOne 118 = .ok (.imul, 1) := by decide +kernel
theorem dX6_paintOne_119 : decode cX6_paintOne 119 = .ok (.iconst 2, 1) := by decide +kernel
theorem dX6_paintOne_120 : decode cX6_paintOne 120 = .ok (.iadd, 1) := by decide +kernel
theorem dX6_paintOne_121 : decode cX6_paintOne 121 = .ok (.aload_n 0, 1) := by decide +kernel
theorem dX6_paintOne_122 : decode cX6_paintOne 122 = .ok (.bipush 60, 2) := by decide +kernel
theorem dX6_paintOne_124 : decode cX6_paintOne 124 = .ok (.invokevirtual 23, 3) := by decide +kernel
theorem dX6_paintOne_127 : decode cX6_paintOne 127 = .ok (.iastore, 1) := by decide +kernel
theorem dX6_paintOne_128 : decode cX6_paintOne 128 = .ok (.iinc 8 1, 3) := by decide +kernel
theorem dX6_paintOne_131 : decode cX6_paintOne 131 = .ok (.goto (-63), 3) := by decide +kernel
theorem dX6_paintOne_134 : decode cX6_paintOne 134 = .ok (.return_, 1) := by decide +kernel
theorem dX7_colourOf_0 : decode cX7_colourOf 0 = .ok (.iload_n 0, 1) := by decide +kernel
theorem dX7_colourOf_1 : decode cX7_colourOf 1 = .ok (.lookupswitch 41 #[(98, 39), (103, 37), (114, 35)], 35) := by decide +kernel
theorem dX7_colourOf_36 : decode cX7_colourOf 36 = .ok (.iconst 0, 1) := by decide +kernel
theorem dX7_colourOf_37 : decode cX7_colourOf 37 = .ok (.ireturn, 1) := by decide +kernel
theorem dX7_colourOf_38 : decode cX7_colourOf 38 = .ok (.iconst 1, 1) := by decide +kernel
theorem dX7_colourOf_39 : decode cX7_colourOf 39 = .ok (.ireturn, 1) := by decide +kernel
theorem dX7_colourOf_40 : decode cX7_colourOf 40 = .ok (.iconst 2, 1) := by decide +kernel
theorem dX7_colourOf_41 : decode cX7_colourOf 41 = .ok (.ireturn, 1) := by decide +kernel
theorem dX7_colourOf_42 : decode cX7_colourOf 42 = .ok (.iconst (-1), 1) := by decide +kernel
theorem dX7_colourOf_43 : decode cX7_colourOf 43 = .ok (.ireturn, 1) := by decide +kernel
theorem dX7_digitOf_0 : decode cX7_digitOf 0 = .ok (.iload_n 0, 1) := by decide +kernel
theorem dX7_digitOf_1 : decode cX7_digitOf 1 = .ok (.bipush 48, 2) := by decide +kernel
theorem dX7_digitOf_3 : decode cX7_digitOf 3 = .ok (.if_icmp .lt 16, 3) := by decide +kernel
theorem dX7_digitOf_6 : decode cX7_digitOf 6 = .ok (.iload_n 0, 1) := by decide +kernel
theorem dX7_digitOf_7 : decode cX7_digitOf 7 = .ok (.bipush 57, 2) := by decide +kernel
theorem dX7_digitOf_9 : decode cX7_digitOf 9 = .ok (.if_icmp .gt 10, 3) := by decide +kernel
theorem dX7_digitOf_12 : decode cX7_digitOf 12 = .ok (.iload_n 0, 1) := by decide +kernel
theorem dX7_digitOf_13 : decode cX7_digitOf 13 = .ok (.bipush 48, 2) := by decide +kernel
theorem dX7_digitOf_15 : decode cX7_digitOf 15 = .ok (.isub, 1) := by decide +kernel
theorem dX7_digitOf_16 : decode cX7_digitOf 16 = .ok (.goto 4, 3) := by decide +kernel
theorem dX7_digitOf_19 : decode cX7_digitOf 19 = .ok (.iconst (-1), 1) := by decide +kernel
theorem dX7_digitOf_20 : decode cX7_digitOf 20 = .ok (.ireturn, 1) := by decide +kernel
theorem dX7_init_0 : decode cX7_init 0 = .ok (.aload_n 0, 1) := by decide +kernel
theorem dX7_init_1 : decode cX7_init 1 = .ok (.invokespecial 3, 3) := by decide +kernel
theorem dX7_init_4 : decode cX7_init 4 = .ok (.return_, 1) := by decide +kernel
theorem dX8_counted_0 : decode cX8_counted 0 = .ok (.iconst 0, 1) := by decide +kernel
theorem dX8_counted_1 : decode cX8_counted 1 = .ok (.istore_n 1, 1) := by decide +kernel
theorem dX8_counted_2 : decode cX8_counted 2 = .ok (.iconst 0, 1) := by decide +kernel
theorem dX8_counted_3 : decode cX8_counted 3 = .ok (.istore_n 2, 1) := by decide +kernel
theorem dX8_counted_4 : decode cX8_counted 4 = .ok (.iload_n 2, 1) := by decide +kernel
theorem dX8_counted_5 : decode cX8_counted 5 = .ok (.aload_n 0, 1) := by decide +kernel
theorem dX8_counted_6 : decode cX8_counted 6 = .ok (.getfield 35, 3) := by decide +kernel
theorem dX8_counted_9 : decode cX8_counted 9 = .ok (.if_icmp .ge 23, 3) := by decide +kernel
theorem dX8_counted_12 : decode cX8_counted 12 = .ok (.aload_n 0, 1) := by decide +kernel
theorem dX8_counted_13 : decode cX8_counted 13 = .ok (.iload_n 2, 1) := by decide +kernel
theorem dX8_counted_14 : decode cX8_counted 14 = .ok (.invokevirtual 55, 3) := by decide +kernel
theorem dX8_counted_17 : decode cX8_counted 17 = .ok (.ifCond .eq 9, 3) := by decide +kernel
theorem dX8_counted_20 : decode cX8_counted 20 = .ok (.iload_n 1, 1) := by decide +kernel
theorem dX8_counted_21 : decode cX8_counted 21 = .ok (.iconst 1, 1) := by decide +kernel
theorem dX8_counted_22 : decode cX8_counted 22 = .ok (.iload_n 2, 1) := by decide +kernel
theorem dX8_counted_23 : decode cX8_counted 23 = .ok (.ishl, 1) := by decide +kernel
theorem dX8_counted_24 : decode cX8_counted 24 = .ok (.ior, 1) := by decide +kernel
theorem dX8_counted_25 : decode cX8_counted 25 = .ok (.istore_n 1, 1) := by decide +kernel
theorem dX8_counted_26 : decode cX8_counted 26 = .ok (.iinc 2 1, 3) := by decide +kernel
theorem dX8_counted_29 : decode cX8_counted 29 = .ok (.goto (-25), 3) := by decide +kernel
theorem dX8_counted_32 : decode cX8_counted 32 = .ok (.iload_n 1, 1) := by decide +kernel
theorem dX8_counted_33 : decode cX8_counted 33 = .ok (.ireturn, 1) := by decide +kernel
theorem dX8_forgetIce_0 : decode cX8_forgetIce 0 = .ok (.aload_n 0, 1) := by decide +kernel
theorem dX8_forgetIce_1 : decode cX8_forgetIce 1 = .ok (.getfield 23, 3) := by decide +kernel
theorem dX8_forgetIce_4 : decode cX8_forgetIce 4 = .ok (.iload_n 1, 1) := by decide +kernel
theorem dX8_forgetIce_5 : decode cX8_forgetIce 5 = .ok (.iaload, 1) := by decide +kernel
theorem dX8_forgetIce_6 : decode cX8_forgetIce 6 = .ok (.iconst (-1), 1) := by decide +kernel
theorem dX8_forgetIce_7 : decode cX8_forgetIce 7 = .ok (.if_icmp .eq 13, 3) := by decide +kernel
theorem dX8_forgetIce_10 : decode cX8_forgetIce 10 = .ok (.aload_n 0, 1) := by decide +kernel
theorem dX8_forgetIce_11 : decode cX8_forgetIce 11 = .ok (.dup, 1) := by decide +kernel
theorem dX8_forgetIce_12 : decode cX8_forgetIce 12 = .ok (.getfield 48, 3) := by decide +kernel
theorem dX8_forgetIce_15 : decode cX8_forgetIce 15 = .ok (.iconst 1, 1) := by decide +kernel
theorem dX8_forgetIce_16 : decode cX8_forgetIce 16 = .ok (.isub, 1) := by decide +kernel
theorem dX8_forgetIce_17 : decode cX8_forgetIce 17 = .ok (.putfield 48, 3) := by decide +kernel
theorem dX8_forgetIce_20 : decode cX8_forgetIce 20 = .ok (.aload_n 0, 1) := by decide +kernel
theorem dX8_forgetIce_21 : decode cX8_forgetIce 21 = .ok (.getfield 23, 3) := by decide +kernel
theorem dX8_forgetIce_24 : decode cX8_forgetIce 24 = .ok (.iload_n 1, 1) := by decide +kernel
theorem dX8_forgetIce_25 : decode cX8_forgetIce 25 = .ok (.iconst (-1), 1) := by decide +kernel
theorem dX8_forgetIce_26 : decode cX8_forgetIce 26 = .ok (.iastore, 1) := by decide +kernel
theorem dX8_forgetIce_27 : decode cX8_forgetIce 27 = .ok (.return_, 1) := by decide +kernel
theorem dX8_hang_0 : decode cX8_hang 0 = .ok (.aload_n 0, 1) := by decide +kernel
theorem dX8_hang_1 : decode cX8_hang 1 = .ok (.getfield 35, 3) := by decide +kernel
theorem dX8_hang_4 : decode cX8_hang 4 = .ok (.bipush 16, 2) := by decide +kernel
theorem dX8_hang_6 : decode cX8_hang 6 = .ok (.if_icmp .lt 6, 3) := by decide +kernel
theorem dX8_hang_9 : decode cX8_hang 9 = .ok (.bipush (-104), 2) := by decide +kernel
theorem dX8_hang_11 : decode cX8_hang 11 = .ok (.ireturn, 1) := by decide +kernel
theorem dX8_hang_12 : decode cX8_hang 12 = .ok (.aload_n 0, 1) := by decide +kernel
theorem dX8_hang_13 : decode cX8_hang 13 = .ok (.getfield 11, 3) := by decide +kernel
theorem dX8_hang_16 : decode cX8_hang 16 = .ok (.aload_n 0, 1) := by decide +kernel
theorem dX8_hang_17 : decode cX8_hang 17 = .ok (.getfield 35, 3) := by decide +kernel
theorem dX8_hang_20 : decode cX8_hang 20 = .ok (.aaload, 1) := by decide +kernel
theorem dX8_hang_21 : decode cX8_hang 21 = .ok (.astore 7, 2) := by decide +kernel
theorem dX8_hang_23 : decode cX8_hang 23 = .ok (.aload 7, 2) := by decide +kernel
theorem dX8_hang_25 : decode cX8_hang 25 = .ok (.iconst 0, 1) := by decide +kernel
theorem dX8_hang_26 : decode cX8_hang 26 = .ok (.iload_n 1, 1) := by decide +kernel
theorem dX8_hang_27 : decode cX8_hang 27 = .ok (.iastore, 1) := by decide +kernel
theorem dX8_hang_28 : decode cX8_hang 28 = .ok (.aload 7, 2) := by decide +kernel
theorem dX8_hang_30 : decode cX8_hang 30 = .ok (.iconst 1, 1) := by decide +kernel
theorem dX8_hang_31 : decode cX8_hang 31 = .ok (.iload_n 2, 1) := by decide +kernel
theorem dX8_hang_32 : decode cX8_hang 32 = .ok (.iastore, 1) := by decide +kernel
theorem dX8_hang_33 : decode cX8_hang 33 = .ok (.aload 7, 2) := by decide +kernel
theorem dX8_hang_35 : decode cX8_hang 35 = .ok (.iconst 2, 1) := by decide +kernel
theorem dX8_hang_36 : decode cX8_hang 36 = .ok (.iload_n 3, 1) := by decide +kernel
theorem dX8_hang_37 : decode cX8_hang 37 = .ok (.iastore, 1) := by decide +kernel
theorem dX8_hang_38 : decode cX8_hang 38 = .ok (.aload 7, 2) := by decide +kernel
theorem dX8_hang_40 : decode cX8_hang 40 = .ok (.iconst 3, 1) := by decide +kernel
theorem dX8_hang_41 : decode cX8_hang 41 = .ok (.iload_n 1, 1) := by decide +kernel
theorem dX8_hang_42 : decode cX8_hang 42 = .ok (.iconst 1, 1) := by decide +kernel
theorem dX8_hang_43 : decode cX8_hang 43 = .ok (.invokestatic 51, 3) := by decide +kernel
theorem dX8_hang_46 : decode cX8_hang 46 = .ok (.ifCond .eq 7, 3) := by decide +kernel
theorem dX8_hang_49 : decode cX8_hang 49 = .ok (.iconst 0, 1) := by decide +kernel
theorem dX8_hang_50 : decode cX8_hang 50 = .ok (.goto 5, 3) := by decide +kernel
theorem dX8_hang_53 : decode cX8_hang 53 = .ok (.iload 4, 2) := by decide +kernel
theorem dX8_hang_55 : decode cX8_hang 55 = .ok (.iastore, 1) := by decide +kernel
theorem dX8_hang_56 : decode cX8_hang 56 = .ok (.aload 7, 2) := by decide +kernel
theorem dX8_hang_58 : decode cX8_hang 58 = .ok (.iconst 4, 1) := by decide +kernel
theorem dX8_hang_59 : decode cX8_hang 59 = .ok (.iload 5, 2) := by decide +kernel
theorem dX8_hang_61 : decode cX8_hang 61 = .ok (.iastore, 1) := by decide +kernel
theorem dX8_hang_62 : decode cX8_hang 62 = .ok (.aload 7, 2) := by decide +kernel
theorem dX8_hang_64 : decode cX8_hang 64 = .ok (.iconst 5, 1) := by decide +kernel
theorem dX8_hang_65 : decode cX8_hang 65 = .ok (.iload 6, 2) := by decide +kernel
theorem dX8_hang_67 : decode cX8_hang 67 = .ok (.iastore, 1) := by decide +kernel
theorem dX8_hang_68 : decode cX8_hang 68 = .ok (.aload_n 0, 1) := by decide +kernel
theorem dX8_hang_69 : decode cX8_hang 69 = .ok (.getfield 16, 3) := by decide +kernel
theorem dX8_hang_72 : decode cX8_hang 72 = .ok (.aload_n 0, 1) := by decide +kernel
theorem dX8_hang_73 : decode cX8_hang 73 = .ok (.getfield 35, 3) := by decide +kernel
theorem dX8_hang_76 : decode cX8_hang 76 = .ok (.aaload, 1) := by decide +kernel
theorem dX8_hang_77 : decode cX8_hang 77 = .ok (.iconst 0, 1) := by decide +kernel
theorem dX8_hang_78 : decode cX8_hang 78 = .ok (.invokestatic 29, 3) := by decide +kernel
theorem dX8_hang_81 : decode cX8_hang 81 = .ok (.aload_n 0, 1) := by decide +kernel
theorem dX8_hang_82 : decode cX8_hang 82 = .ok (.dup, 1) := by decide +kernel
theorem dX8_hang_83 : decode cX8_hang 83 = .ok (.getfield 35, 3) := by decide +kernel
theorem dX8_hang_86 : decode cX8_hang 86 = .ok (.iconst 1, 1) := by decide +kernel
theorem dX8_hang_87 : decode cX8_hang 87 = .ok (.iadd, 1) := by decide +kernel
theorem dX8_hang_88 : decode cX8_hang 88 = .ok (.putfield 35, 3) := by decide +kernel
theorem dX8_hang_91 : decode cX8_hang 91 = .ok (.aload_n 0, 1) := by decide +kernel
theorem dX8_hang_92 : decode cX8_hang 92 = .ok (.getfield 35, 3) := by decide +kernel
theorem dX8_hang_95 : decode cX8_hang 95 = .ok (.iconst 1, 1) := by decide +kernel
theorem dX8_hang_96 : decode cX8_hang 96 = .ok (.isub, 1) := by decide +kernel
theorem dX8_hang_97 : decode cX8_hang 97 = .ok (.ireturn, 1) := by decide +kernel
theorem dX8_has_0 : decode cX8_has 0 = .ok (.iload_n 1, 1) := by decide +kernel
theorem dX8_has_1 : decode cX8_has 1 = .ok (.ifCond .lt 15, 3) := by decide +kernel
theorem dX8_has_4 : decode cX8_has 4 = .ok (.iload_n 1, 1) := by decide +kernel
theorem dX8_has_5 : decode cX8_has 5 = .ok (.aload_n 0, 1) := by decide +kernel
theorem dX8_has_6 : decode cX8_has 6 = .ok (.getfield 35, 3) := by decide +kernel
theorem dX8_has_9 : decode cX8_has 9 = .ok (.if_icmp .ge 7, 3) := by decide +kernel
theorem dX8_has_12 : decode cX8_has 12 = .ok (.iconst 1, 1) := by decide +kernel
theorem dX8_has_13 : decode cX8_has 13 = .ok (.goto 4, 3) := by decide +kernel
theorem dX8_has_16 : decode cX8_has 16 = .ok (.iconst 0, 1) := by decide +kernel
theorem dX8_has_17 : decode cX8_has 17 = .ok (.ireturn, 1) := by decide +kernel
theorem dX8_iceAllows_0 : decode cX8_iceAllows 0 = .ok (.aload_n 0, 1) := by decide +kernel
theorem dX8_iceAllows_1 : decode cX8_iceAllows 1 = .ok (.getfield 23, 3) := by decide +kernel
theorem dX8_iceAllows_4 : decode cX8_iceAllows 4 = .ok (.iload_n 1, 1) := by decide +kernel
theorem dX8_iceAllows_5 : decode cX8_iceAllows 5 = .ok (.iaload, 1) := by decide +kernel
theorem dX8_iceAllows_6 : decode cX8_iceAllows 6 = .ok (.iconst (-1), 1) := by decide +kernel
theorem dX8_iceAllows_7 : decode cX8_iceAllows 7 = .ok (.if_icmp .eq 23, 3) := by decide +kernel
theorem dX8_iceAllows_10 : decode cX8_iceAllows 10 = .ok (.aload_n 0, 1) := by decide +kernel
theorem dX8_iceAllows_11 : decode cX8_iceAllows 11 = .ok (.getfield 23, 3) := by decide +kernel
theorem dX8_iceAllows_14 : decode cX8_iceAllows 14 = .ok (.iload_n 1, 1) := by decide +kernel
theorem dX8_iceAllows_15 : decode cX8_iceAllows 15 = .ok (.iaload, 1) := by decide +kernel
theorem dX8_iceAllows_16 : decode cX8_iceAllows 16 = .ok (.iload_n 3, 1) := by decide +kernel
theorem dX8_iceAllows_17 : decode cX8_iceAllows 17 = .ok (.if_icmp .gt 17, 3) := by decide +kernel
theorem dX8_iceAllows_20 : decode cX8_iceAllows 20 = .ok (.iload_n 2, 1) := by decide +kernel
theorem dX8_iceAllows_21 : decode cX8_iceAllows 21 = .ok (.aload_n 0, 1) := by decide +kernel
theorem dX8_iceAllows_22 : decode cX8_iceAllows 22 = .ok (.getfield 26, 3) := by decide +kernel
theorem dX8_iceAllows_25 : decode cX8_iceAllows 25 = .ok (.iload_n 1, 1) := by decide +kernel
theorem dX8_iceAllows_26 : decode cX8_iceAllows 26 = .ok (.iaload, 1) := by decide +kernel
theorem dX8_iceAllows_27 : decode cX8_iceAllows 27 = .ok (.if_icmp .gt 7, 3) := by decide +kernel
theorem dX8_iceAllows_30 : decode cX8_iceAllows 30 = .ok (.iconst 1, 1) := by decide +kernel
theorem dX8_iceAllows_31 : decode cX8_iceAllows 31 = .ok (.goto 4, 3) := by decide +kernel
theorem dX8_iceAllows_34 : decode cX8_iceAllows 34 = .ok (.iconst 0, 1) := by decide +kernel
theorem dX8_iceAllows_35 : decode cX8_iceAllows 35 = .ok (.ireturn, 1) := by decide +kernel
theorem dX8_init_0 : decode cX8_init 0 = .ok (.aload_n 0, 1) := by decide +kernel
theorem dX8_init_1 : decode cX8_init 1 = .ok (.invokespecial 3, 3) := by decide +kernel
theorem dX8_init_4 : decode cX8_init 4 = .ok (.aload_n 0, 1) := by decide +kernel
theorem dX8_init_5 : decode cX8_init 5 = .ok (.bipush 16, 2) := by decide +kernel
theorem dX8_init_7 : decode cX8_init 7 = .ok (.bipush 6, 2) := by decide +kernel
theorem dX8_init_9 : decode cX8_init 9 = .ok (.multianewarray 9 2, 4) := by decide +kernel
theorem dX8_init_13 : decode cX8_init 13 = .ok (.putfield 11, 3) := by decide +kernel
theorem dX8_init_16 : decode cX8_init 16 = .ok (.aload_n 0, 1) := by decide +kernel
theorem dX8_init_17 : decode cX8_init 17 = .ok (.bipush 16, 2) := by decide +kernel
theorem dX8_init_19 : decode cX8_init 19 = .ok (.bipush 12, 2) := by decide +kernel
theorem dX8_init_21 : decode cX8_init 21 = .ok (.multianewarray 9 2, 4) := by decide +kernel
theorem dX8_init_25 : decode cX8_init 25 = .ok (.putfield 16, 3) := by decide +kernel
theorem dX8_init_28 : decode cX8_init 28 = .ok (.aload_n 0, 1) := by decide +kernel
theorem dX8_init_29 : decode cX8_init 29 = .ok (.bipush 6, 2) := by decide +kernel
theorem dX8_init_31 : decode cX8_init 31 = .ok (.newarray .int, 2) := by decide +kernel
theorem dX8_init_33 : decode cX8_init 33 = .ok (.putfield 19, 3) := by decide +kernel
theorem dX8_init_36 : decode cX8_init 36 = .ok (.aload_n 0, 1) := by decide +kernel
theorem dX8_init_37 : decode cX8_init 37 = .ok (.sipush 401, 3) := by decide +kernel
theorem dX8_init_40 : decode cX8_init 40 = .ok (.newarray .int, 2) := by decide +kernel
theorem dX8_init_42 : decode cX8_init 42 = .ok (.putfield 23, 3) := by decide +kernel
theorem dX8_init_45 : decode cX8_init 45 = .ok (.aload_n 0, 1) := by decide +kernel
theorem dX8_init_46 : decode cX8_init 46 = .ok (.sipush 401, 3) := by decide +kernel
theorem dX8_init_49 : decode cX8_init 49 = .ok (.newarray .int, 2) := by decide +kernel
theorem dX8_init_51 : decode cX8_init 51 = .ok (.putfield 26, 3) := by decide +kernel
theorem dX8_init_54 : decode cX8_init 54 = .ok (.aload_n 0, 1) := by decide +kernel
theorem dX8_init_55 : decode cX8_init 55 = .ok (.getfield 23, 3) := by decide +kernel
theorem dX8_init_58 : decode cX8_init 58 = .ok (.iconst (-1), 1) := by decide +kernel
theorem dX8_init_59 : decode cX8_init 59 = .ok (.invokestatic 29, 3) := by decide +kernel
theorem dX8_init_62 : decode cX8_init 62 = .ok (.return_, 1) := by decide +kernel
theorem dX8_isCounted_0 : decode cX8_isCounted 0 = .ok (.aload_n 0, 1) := by decide +kernel
theorem dX8_isCounted_1 : decode cX8_isCounted 1 = .ok (.getfield 11, 3) := by decide +kernel
theorem dX8_isCounted_4 : decode cX8_isCounted 4 = .ok (.iload_n 1, 1) := by decide +kernel
theorem dX8_isCounted_5 : decode cX8_isCounted 5 = .ok (.aaload, 1) := by decide +kernel
theorem dX8_isCounted_6 : decode cX8_isCounted 6 = .ok (.iconst 0, 1) := by decide +kernel
theorem dX8_isCounted_7 : decode cX8_isCounted 7 = .ok (.iaload, 1) := by decide +kernel
theorem dX8_isCounted_8 : decode cX8_isCounted 8 = .ok (.iconst 3, 1) := by decide +kernel
theorem dX8_isCounted_9 : decode cX8_isCounted 9 = .ok (.if_icmp .eq 7, 3) := by decide +kernel
theorem dX8_isCounted_12 : decode cX8_isCounted 12 = .ok (.iconst 1, 1) := by decide +kernel
theorem dX8_isCounted_13 : decode cX8_isCounted 13 = .ok (.goto 4, 3) := by decide +kernel
theorem dX8_isCounted_16 : decode cX8_isCounted 16 = .ok (.iconst 0, 1) := by decide +kernel
theorem dX8_isCounted_17 : decode cX8_isCounted 17 = .ok (.ireturn, 1) := by decide +kernel
theorem dX8_isNear_0 : decode cX8_isNear 0 = .ok (.aload_n 0, 1) := by decide +kernel
theorem dX8_isNear_1 : decode cX8_isNear 1 = .ok (.getfield 11, 3) := by decide +kernel
theorem dX8_isNear_4 : decode cX8_isNear 4 = .ok (.iload_n 1, 1) := by decide +kernel
theorem dX8_isNear_5 : decode cX8_isNear 5 = .ok (.aaload, 1) := by decide +kernel
theorem dX8_isNear_6 : decode cX8_isNear 6 = .ok (.iconst 0, 1) := by decide +kernel
theorem dX8_isNear_7 : decode cX8_isNear 7 = .ok (.iaload, 1) := by decide +kernel
theorem dX8_isNear_8 : decode cX8_isNear 8 = .ok (.iconst 4, 1) := by decide +kernel
theorem dX8_isNear_9 : decode cX8_isNear 9 = .ok (.if_icmp .ne 9, 3) := by decide +kernel
theorem dX8_isNear_12 : decode cX8_isNear 12 = .ok (.iload_n 2, 1) := by decide +kernel
theorem dX8_isNear_13 : decode cX8_isNear 13 = .ok (.iconst 5, 1) := by decide +kernel
theorem dX8_isNear_14 : decode cX8_isNear 14 = .ok (.iadd, 1) := by decide +kernel
theorem dX8_isNear_15 : decode cX8_isNear 15 = .ok (.goto 4, 3) := by decide +kernel
theorem dX8_isNear_18 : decode cX8_isNear 18 = .ok (.iload_n 2, 1) := by decide +kernel
theorem dX8_isNear_19 : decode cX8_isNear 19 = .ok (.istore_n 3, 1) := by decide +kernel
theorem dX8_isNear_20 : decode cX8_isNear 20 = .ok (.iconst 0, 1) := by decide +kernel
theorem dX8_isNear_21 : decode cX8_isNear 21 = .ok (.istore 4, 2) := by decide +kernel
theorem dX8_isNear_23 : decode cX8_isNear 23 = .ok (.iload 4, 2) := by decide +kernel
theorem dX8_isNear_25 : decode cX8_isNear 25 = .ok (.aload_n 0, 1) := by decide +kernel
theorem dX8_isNear_26 : decode cX8_isNear 26 = .ok (.getfield 45, 3) := by decide +kernel
theorem dX8_isNear_29 : decode cX8_isNear 29 = .ok (.if_icmp .ge 40, 3) := by decide +kernel
theorem dX8_isNear_32 : decode cX8_isNear 32 = .ok (.aload_n 0, 1) := by decide +kernel
theorem dX8_isNear_33 : decode cX8_isNear 33 = .ok (.getfield 11, 3) := by decide +kernel
theorem dX8_isNear_36 : decode cX8_isNear 36 = .ok (.iload_n 1, 1) := by decide +kernel
theorem dX8_isNear_37 : decode cX8_isNear 37 = .ok (.aaload, 1) := by decide +kernel
theorem dX8_isNear_38 : decode cX8_isNear 38 = .ok (.iconst 2, 1) := by decide +kernel
theorem dX8_isNear_39 : decode cX8_isNear 39 = .ok (.iaload, 1) := by decide +kernel
theorem dX8_isNear_40 : decode cX8_isNear 40 = .ok (.aload_n 0, 1) := by decide +kernel
theorem dX8_isNear_41 : decode cX8_isNear 41 = .ok (.getfield 19, 3) := by decide +kernel
theorem dX8_isNear_44 : decode cX8_isNear 44 = .ok (.iload 4, 2) := by decide +kernel
theorem dX8_isNear_46 : decode cX8_isNear 46 = .ok (.iaload, 1) := by decide +kernel
theorem dX8_isNear_47 : decode cX8_isNear 47 = .ok (.isub, 1) := by decide +kernel
theorem dX8_isNear_48 : decode cX8_isNear 48 = .ok (.istore 5, 2) := by decide +kernel
theorem dX8_isNear_50 : decode cX8_isNear 50 = .ok (.iload 5, 2) := by decide +kernel
theorem dX8_isNear_52 : decode cX8_isNear 52 = .ok (.ifCond .lt 11, 3) := by decide +kernel
theorem dX8_isNear_55 : decode cX8_isNear 55 = .ok (.iload 5, 2) := by decide +kernel
theorem dX8_isNear_57 : decode cX8_isNear 57 = .ok (.iload_n 3, 1) := by decide +kernel
theorem dX8_isNear_58 : decode cX8_isNear 58 = .ok (.if_icmp .gt 5, 3) := by decide +kernel
theorem dX8_isNear_61 : decode cX8_isNear 61 = .ok (.iconst 1, 1) := by decide +kernel
theorem dX8_isNear_62 : decode cX8_isNear 62 = .ok (.ireturn, 1) := by decide +kernel
theorem dX8_isNear_63 : decode cX8_isNear 63 = .ok (.iinc 4 1, 3) := by decide +kernel
theorem dX8_isNear_66 : decode cX8_isNear 66 = .ok (.goto (-43), 3) := by decide +kernel
theorem dX8_isNear_69 : decode cX8_isNear 69 = .ok (.iconst 0, 1) := by decide +kernel
theorem dX8_isNear_70 : decode cX8_isNear 70 = .ok (.ireturn, 1) := by decide +kernel
theorem dX8_isOfJust_0 : decode cX8_isOfJust 0 = .ok (.aload_n 0, 1) := by decide +kernel
theorem dX8_isOfJust_1 : decode cX8_isOfJust 1 = .ok (.iload_n 1, 1) := by decide +kernel
theorem dX8_isOfJust_2 : decode cX8_isOfJust 2 = .ok (.invokevirtual 55, 3) := by decide +kernel
theorem dX8_isOfJust_5 : decode cX8_isOfJust 5 = .ok (.ifCond .eq 30, 3) := by decide +kernel
theorem dX8_isOfJust_8 : decode cX8_isOfJust 8 = .ok (.aload_n 0, 1) := by decide +kernel
theorem dX8_isOfJust_9 : decode cX8_isOfJust 9 = .ok (.getfield 11, 3) := by decide +kernel
theorem dX8_isOfJust_12 : decode cX8_isOfJust 12 = .ok (.iload_n 1, 1) := by decide +kernel
theorem dX8_isOfJust_13 : decode cX8_isOfJust 13 = .ok (.aaload, 1) := by decide +kernel
theorem dX8_isOfJust_14 : decode cX8_isOfJust 14 = .ok (.iconst 2, 1) := by decide +kernel
theorem dX8_isOfJust_15 : decode cX8_isOfJust 15 = .ok (.iaload, 1) := by decide +kernel
theorem dX8_isOfJust_16 : decode cX8_isOfJust 16 = .ok (.iload_n 2, 1) := by decide +kernel
theorem dX8_isOfJust_17 : decode cX8_isOfJust 17 = .ok (.if_icmp .ne 18, 3) := by decide +kernel
theorem dX8_isOfJust_20 : decode cX8_isOfJust 20 = .ok (.aload_n 0, 1) := by decide +kernel
theorem dX8_isOfJust_21 : decode cX8_isOfJust 21 = .ok (.getfield 11, 3) := by decide +kernel
theorem dX8_isOfJust_24 : decode cX8_isOfJust 24 = .ok (.iload_n 1, 1) := by decide +kernel
theorem dX8_isOfJust_25 : decode cX8_isOfJust 25 = .ok (.aaload, 1) := by decide +kernel
theorem dX8_isOfJust_26 : decode cX8_isOfJust 26 = .ok (.iconst 3, 1) := by decide +kernel
theorem dX8_isOfJust_27 : decode cX8_isOfJust 27 = .ok (.iaload, 1) := by decide +kernel
theorem dX8_isOfJust_28 : decode cX8_isOfJust 28 = .ok (.ifCond .ne 7, 3) := by decide +kernel
theorem dX8_isOfJust_31 : decode cX8_isOfJust 31 = .ok (.iconst 1, 1) := by decide +kernel
theorem dX8_isOfJust_32 : decode cX8_isOfJust 32 = .ok (.goto 4, 3) := by decide +kernel
theorem dX8_isOfJust_35 : decode cX8_isOfJust 35 = .ok (.iconst 0, 1) := by decide +kernel
theorem dX8_isOfJust_36 : decode cX8_isOfJust 36 = .ok (.ireturn, 1) := by decide +kernel
theorem dX8_nearOnes_0 : decode cX8_nearOnes 0 = .ok (.iconst 0, 1) := by decide +kernel
theorem dX8_nearOnes_1 : decode cX8_nearOnes 1 = .ok (.istore_n 2, 1) := by decide +kernel
theorem dX8_nearOnes_2 : decode cX8_nearOnes 2 = .ok (.iconst 0, 1) := by decide +kernel
theorem dX8_nearOnes_3 : decode cX8_nearOnes 3 = .ok (.istore_n 3, 1) := by decide +kernel
theorem dX8_nearOnes_4 : decode cX8_nearOnes 4 = .ok (.iload_n 3, 1) := by decide +kernel
theorem dX8_nearOnes_5 : decode cX8_nearOnes 5 = .ok (.aload_n 0, 1) := by decide +kernel
theorem dX8_nearOnes_6 : decode cX8_nearOnes 6 = .ok (.getfield 35, 3) := by decide +kernel
theorem dX8_nearOnes_9 : decode cX8_nearOnes 9 = .ok (.if_icmp .ge 32, 3) := by decide +kernel
theorem dX8_nearOnes_12 : decode cX8_nearOnes 12 = .ok (.aload_n 0, 1) := by decide +kernel
theorem dX8_nearOnes_13 : decode cX8_nearOnes 13 = .ok (.iload_n 3, 1) := by decide +kernel
theorem dX8_nearOnes_14 : decode cX8_nearOnes 14 = .ok (.invokevirtual 55, 3) := by decide +kernel
theorem dX8_nearOnes_17 : decode cX8_nearOnes 17 = .ok (.ifCond .eq 18, 3) := by decide +kernel
theorem dX8_nearOnes_20 : decode cX8_nearOnes 20 = .ok (.aload_n 0, 1) := by decide +kernel
theorem dX8_nearOnes_21 : decode cX8_nearOnes 21 = .ok (.iload_n 3, 1) := by decide +kernel
theorem dX8_nearOnes_22 : decode cX8_nearOnes 22 = .ok (.iload_n 1, 1) := by decide +kernel
theorem dX8_nearOnes_23 : decode cX8_nearOnes 23 = .ok (.invokevirtual 59, 3) := by decide +kernel
theorem dX8_nearOnes_26 : decode cX8_nearOnes 26 = .ok (.ifCond .eq 9, 3) := by decide +kernel
theorem dX8_nearOnes_29 : decode cX8_nearOnes 29 = .ok (.iload_n 2, 1) := by decide +kernel
theorem dX8_nearOnes_30 : decode cX8_nearOnes 30 = .ok (.iconst 1, 1) := by decide +kernel
theorem dX8_nearOnes_31 : decode cX8_nearOnes 31 = .ok (.iload_n 3, 1) := by decide +kernel
theorem dX8_nearOnes_32 : decode cX8_nearOnes 32 = .ok (.ishl, 1) := by decide +kernel
theorem dX8_nearOnes_33 : decode cX8_nearOnes 33 = .ok (.ior, 1) := by decide +kernel
theorem dX8_nearOnes_34 : decode cX8_nearOnes 34 = .ok (.istore_n 2, 1) := by decide +kernel
theorem dX8_nearOnes_35 : decode cX8_nearOnes 35 = .ok (.iinc 3 1, 3) := by decide +kernel
theorem dX8_nearOnes_38 : decode cX8_nearOnes 38 = .ok (.goto (-34), 3) := by decide +kernel
theorem dX8_nearOnes_41 : decode cX8_nearOnes 41 = .ok (.iload_n 2, 1) := by decide +kernel
theorem dX8_nearOnes_42 : decode cX8_nearOnes 42 = .ok (.ireturn, 1) := by decide +kernel
theorem dX8_takeFrom_0 : decode cX8_takeFrom 0 = .ok (.iconst 0, 1) := by decide +kernel
theorem dX8_takeFrom_1 : decode cX8_takeFrom 1 = .ok (.istore_n 2, 1) := by decide +kernel
theorem dX8_takeFrom_2 : decode cX8_takeFrom 2 = .ok (.iload_n 2, 1) := by decide +kernel
theorem dX8_takeFrom_3 : decode cX8_takeFrom 3 = .ok (.aload_n 1, 1) := by decide +kernel
theorem dX8_takeFrom_4 : decode cX8_takeFrom 4 = .ok (.getfield 35, 3) := by decide +kernel
theorem dX8_takeFrom_7 : decode cX8_takeFrom 7 = .ok (.if_icmp .ge 47, 3) := by decide +kernel
theorem dX8_takeFrom_10 : decode cX8_takeFrom 10 = .ok (.aload_n 1, 1) := by decide +kernel
theorem dX8_takeFrom_11 : decode cX8_takeFrom 11 = .ok (.getfield 11, 3) := by decide +kernel
theorem dX8_takeFrom_14 : decode cX8_takeFrom 14 = .ok (.iload_n 2, 1) := by decide +kernel
theorem dX8_takeFrom_15 : decode cX8_takeFrom 15 = .ok (.aaload, 1) := by decide +kernel
theorem dX8_takeFrom_16 : decode cX8_takeFrom 16 = .ok (.iconst 0, 1) := by decide +kernel
theorem dX8_takeFrom_17 : decode cX8_takeFrom 17 = .ok (.aload_n 0, 1) := by decide +kernel
theorem dX8_takeFrom_18 : decode cX8_takeFrom 18 = .ok (.getfield 11, 3) := by decide +kernel
theorem dX8_takeFrom_21 : decode cX8_takeFrom 21 = .ok (.iload_n 2, 1) := by decide +kernel
theorem dX8_takeFrom_22 : decode cX8_takeFrom 22 = .ok (.aaload, 1) := by decide +kernel
theorem dX8_takeFrom_23 : decode cX8_takeFrom 23 = .ok (.iconst 0, 1) := by decide +kernel
theorem dX8_takeFrom_24 : decode cX8_takeFrom 24 = .ok (.bipush 6, 2) := by decide +kernel
theorem dX8_takeFrom_26 : decode cX8_takeFrom 26 = .ok (.invokestatic 39, 3) := by decide +kernel
theorem dX8_takeFrom_29 : decode cX8_takeFrom 29 = .ok (.aload_n 1, 1) := by decide +kernel
theorem dX8_takeFrom_30 : decode cX8_takeFrom 30 = .ok (.getfield 16, 3) := by decide +kernel
theorem dX8_takeFrom_33 : decode cX8_takeFrom 33 = .ok (.iload_n 2, 1) := by decide +kernel
theorem dX8_takeFrom_34 : decode cX8_takeFrom 34 = .ok (.aaload, 1) := by decide +kernel
theorem dX8_takeFrom_35 : decode cX8_takeFrom 35 = .ok (.iconst 0, 1) := by decide +kernel
theorem dX8_takeFrom_36 : decode cX8_takeFrom 36 = .ok (.aload_n 0, 1) := by decide +kernel
theorem dX8_takeFrom_37 : decode cX8_takeFrom 37 = .ok (.getfield 16, 3) := by decide +kernel
theorem dX8_takeFrom_40 : decode cX8_takeFrom 40 = .ok (.iload_n 2, 1) := by decide +kernel
theorem dX8_takeFrom_41 : decode cX8_takeFrom 41 = .ok (.aaload, 1) := by decide +kernel
theorem dX8_takeFrom_42 : decode cX8_takeFrom 42 = .ok (.iconst 0, 1) := by decide +kernel
theorem dX8_takeFrom_43 : decode cX8_takeFrom 43 = .ok (.bipush 12, 2) := by decide +kernel
theorem dX8_takeFrom_45 : decode cX8_takeFrom 45 = .ok (.invokestatic 39, 3) := by decide +kernel
theorem dX8_takeFrom_48 : decode cX8_takeFrom 48 = .ok (.iinc 2 1, 3) := by decide +kernel
theorem dX8_takeFrom_51 : decode cX8_takeFrom 51 = .ok (.goto (-49), 3) := by decide +kernel
theorem dX8_takeFrom_54 : decode cX8_takeFrom 54 = .ok (.aload_n 1, 1) := by decide +kernel
theorem dX8_takeFrom_55 : decode cX8_takeFrom 55 = .ok (.getfield 19, 3) := by decide +kernel
theorem dX8_takeFrom_58 : decode cX8_takeFrom 58 = .ok (.iconst 0, 1) := by decide +kernel
theorem dX8_takeFrom_59 : decode cX8_takeFrom 59 = .ok (.aload_n 0, 1) := by decide +kernel
theorem dX8_takeFrom_60 : decode cX8_takeFrom 60 = .ok (.getfield 19, 3) := by decide +kernel
theorem dX8_takeFrom_63 : decode cX8_takeFrom 63 = .ok (.iconst 0, 1) := by decide +kernel
theorem dX8_takeFrom_64 : decode cX8_takeFrom 64 = .ok (.bipush 6, 2) := by decide +kernel
theorem dX8_takeFrom_66 : decode cX8_takeFrom 66 = .ok (.invokestatic 39, 3) := by decide +kernel
theorem dX8_takeFrom_69 : decode cX8_takeFrom 69 = .ok (.aload_n 1, 1) := by decide +kernel
theorem dX8_takeFrom_70 : decode cX8_takeFrom 70 = .ok (.getfield 23, 3) := by decide +kernel
theorem dX8_takeFrom_73 : decode cX8_takeFrom 73 = .ok (.iconst 0, 1) := by decide +kernel
theorem dX8_takeFrom_74 : decode cX8_takeFrom 74 = .ok (.aload_n 0, 1) := by decide +kernel
theorem dX8_takeFrom_75 : decode cX8_takeFrom 75 = .ok (.getfield 23, 3) := by decide +kernel
theorem dX8_takeFrom_78 : decode cX8_takeFrom 78 = .ok (.iconst 0, 1) := by decide +kernel
theorem dX8_takeFrom_79 : decode cX8_takeFrom 79 = .ok (.sipush 401, 3) := by decide +kernel
theorem dX8_takeFrom_82 : decode cX8_takeFrom 82 = .ok (.invokestatic 39, 3) := by decide +kernel
theorem dX8_takeFrom_85 : decode cX8_takeFrom 85 = .ok (.aload_n 1, 1) := by decide +kernel
theorem dX8_takeFrom_86 : decode cX8_takeFrom 86 = .ok (.getfield 26, 3) := by decide +kernel
theorem dX8_takeFrom_89 : decode cX8_takeFrom 89 = .ok (.iconst 0, 1) := by decide +kernel
theorem dX8_takeFrom_90 : decode cX8_takeFrom 90 = .ok (.aload_n 0, 1) := by decide +kernel
theorem dX8_takeFrom_91 : decode cX8_takeFrom 91 = .ok (.getfield 26, 3) := by decide +kernel
theorem dX8_takeFrom_94 : decode cX8_takeFrom 94 = .ok (.iconst 0, 1) := by decide +kernel
theorem dX8_takeFrom_95 : decode cX8_takeFrom 95 = .ok (.sipush 401, 3) := by decide +kernel
theorem dX8_takeFrom_98 : decode cX8_takeFrom 98 = .ok (.invokestatic 39, 3) := by decide +kernel
theorem dX8_takeFrom_101 : decode cX8_takeFrom 101 = .ok (.aload_n 0, 1) := by decide +kernel
theorem dX8_takeFrom_102 : decode cX8_takeFrom 102 = .ok (.aload_n 1, 1) := by decide +kernel
theorem dX8_takeFrom_103 : decode cX8_takeFrom 103 = .ok (.getfield 35, 3) := by decide +kernel
theorem dX8_takeFrom_106 : decode cX8_takeFrom 106 = .ok (.putfield 35, 3) := by decide +kernel
theorem dX8_takeFrom_109 : decode cX8_takeFrom 109 = .ok (.aload_n 0, 1) := by decide +kernel
theorem dX8_takeFrom_110 : decode cX8_takeFrom 110 = .ok (.aload_n 1, 1) := by decide +kernel
theorem dX8_takeFrom_111 : decode cX8_takeFrom 111 = .ok (.getfield 45, 3) := by decide +kernel
theorem dX8_takeFrom_114 : decode cX8_takeFrom 114 = .ok (.putfield 45, 3) := by decide +kernel
theorem dX8_takeFrom_117 : decode cX8_takeFrom 117 = .ok (.aload_n 0, 1) := by decide +kernel
theorem dX8_takeFrom_118 : decode cX8_takeFrom 118 = .ok (.aload_n 1, 1) := by decide +kernel
theorem dX8_takeFrom_119 : decode cX8_takeFrom 119 = .ok (.getfield 48, 3) := by decide +kernel
theorem dX8_takeFrom_122 : decode cX8_takeFrom 122 = .ok (.putfield 48, 3) := by decide +kernel
theorem dX8_takeFrom_125 : decode cX8_takeFrom 125 = .ok (.return_, 1) := by decide +kernel
theorem dX8_tellIce_0 : decode cX8_tellIce 0 = .ok (.aload_n 0, 1) := by decide +kernel
theorem dX8_tellIce_1 : decode cX8_tellIce 1 = .ok (.getfield 23, 3) := by decide +kernel
theorem dX8_tellIce_4 : decode cX8_tellIce 4 = .ok (.iload_n 1, 1) := by decide +kernel
theorem dX8_tellIce_5 : decode cX8_tellIce 5 = .ok (.iaload, 1) := by decide +kernel
theorem dX8_tellIce_6 : decode cX8_tellIce 6 = .ok (.iconst (-1), 1) := by decide +kernel
theorem dX8_tellIce_7 : decode cX8_tellIce 7 = .ok (.if_icmp .ne 13, 3) := by decide +kernel
theorem dX8_tellIce_10 : decode cX8_tellIce 10 = .ok (.aload_n 0, 1) := by decide +kernel
theorem dX8_tellIce_11 : decode cX8_tellIce 11 = .ok (.dup, 1) := by decide +kernel
theorem dX8_tellIce_12 : decode cX8_tellIce 12 = .ok (.getfield 48, 3) := by decide +kernel
theorem dX8_tellIce_15 : decode cX8_tellIce 15 = .ok (.iconst 1, 1) := by decide +kernel
theorem dX8_tellIce_16 : decode cX8_tellIce 16 = .ok (.iadd, 1) := by decide +kernel
theorem dX8_tellIce_17 : decode cX8_tellIce 17 = .ok (.putfield 48, 3) := by decide +kernel
theorem dX8_tellIce_20 : decode cX8_tellIce 20 = .ok (.aload_n 0, 1) := by decide +kernel
theorem dX8_tellIce_21 : decode cX8_tellIce 21 = .ok (.getfield 23, 3) := by decide +kernel
theorem dX8_tellIce_24 : decode cX8_tellIce 24 = .ok (.iload_n 1, 1) := by decide +kernel
theorem dX8_tellIce_25 : decode cX8_tellIce 25 = .ok (.iload_n 2, 1) := by decide +kernel
theorem dX8_tellIce_26 : decode cX8_tellIce 26 = .ok (.iastore, 1) := by decide +kernel
theorem dX8_tellIce_27 : decode cX8_tellIce 27 = .ok (.aload_n 0, 1) := by decide +kernel
theorem dX8_tellIce_28 : decode cX8_tellIce 28 = .ok (.getfield 26, 3) := by decide +kernel
theorem dX8_tellIce_31 : decode cX8_tellIce 31 = .ok (.iload_n 1, 1) := by decide +kernel
theorem dX8_tellIce_32 : decode cX8_tellIce 32 = .ok (.iload_n 3, 1) := by decide +kernel
theorem dX8_tellIce_33 : decode cX8_tellIce 33 = .ok (.iastore, 1) := by decide +kernel
theorem dX8_tellIce_34 : decode cX8_tellIce 34 = .ok (.return_, 1) := by decide +kernel
theorem dX9_about_0 : decode cX9_about 0 = .ok (.aload_n 0, 1) := by decide +kernel
theorem dX9_about_1 : decode cX9_about 1 = .ok (.getfield 62, 3) := by decide +kernel
theorem dX9_about_4 : decode cX9_about 4 = .ok (.iload_n 1, 1) := by decide +kernel
theorem dX9_about_5 : decode cX9_about 5 = .ok (.invokevirtual 144, 3) := by decide +kernel
theorem dX9_about_8 : decode cX9_about 8 = .ok (.ifCond .ne 6, 3) := by decide +kernel
theorem dX9_about_11 : decode cX9_about 11 = .ok (.bipush (-101), 2) := by decide +kernel
theorem dX9_about_13 : decode cX9_about 13 = .ok (.ireturn, 1) := by decide +kernel
theorem dX9_about_14 : decode cX9_about 14 = .ok (.iload_n 2, 1) := by decide +kernel
theorem dX9_about_15 : decode cX9_about 15 = .ok (.iconst 5, 1) := by decide +kernel
theorem dX9_about_16 : decode cX9_about 16 = .ok (.invokestatic 126, 3) := by decide +kernel
theorem dX9_about_19 : decode cX9_about 19 = .ok (.ifCond .eq 15, 3) := by decide +kernel
theorem dX9_about_22 : decode cX9_about 22 = .ok (.aload_n 0, 1) := by decide +kernel
theorem dX9_about_23 : decode cX9_about 23 = .ok (.getfield 62, 3) := by decide +kernel
theorem dX9_about_26 : decode cX9_about 26 = .ok (.getfield 150, 3) := by decide +kernel
theorem dX9_about_29 : decode cX9_about 29 = .ok (.iload_n 1, 1) := by decide +kernel
theorem dX9_about_30 : decode cX9_about 30 = .ok (.aaload, 1) := by decide +kernel
theorem dX9_about_31 : decode cX9_about 31 = .ok (.iload_n 2, 1) := by decide +kernel
theorem dX9_about_32 : decode cX9_about 32 = .ok (.iaload, 1) := by decide +kernel
theorem dX9_about_33 : decode cX9_about 33 = .ok (.ireturn, 1) := by decide +kernel
theorem dX9_about_34 : decode cX9_about 34 = .ok (.iload_n 2, 1) := by decide +kernel
theorem dX9_about_35 : decode cX9_about 35 = .ok (.bipush 10, 2) := by decide +kernel
theorem dX9_about_37 : decode cX9_about 37 = .ok (.if_icmp .lt 9, 3) := by decide +kernel
theorem dX9_about_40 : decode cX9_about 40 = .ok (.iload_n 2, 1) := by decide +kernel
theorem dX9_about_41 : decode cX9_about 41 = .ok (.bipush 22, 2) := by decide +kernel
theorem dX9_about_43 : decode cX9_about 43 = .ok (.if_icmp .lt 6, 3) := by decide +kernel
theorem dX9_about_46 : decode cX9_about 46 = .ok (.bipush (-102), 2) := by decide +kernel
theorem dX9_about_48 : decode cX9_about 48 = .ok (.ireturn, 1) := by decide +kernel
theorem dX9_about_49 : decode cX9_about 49 = .ok (.aload_n 0, 1) := by decide +kernel
theorem dX9_about_50 : decode cX9_about 50 = .ok (.iload_n 1, 1) := by decide +kernel
theorem dX9_about_51 : decode cX9_about 51 = .ok (.iload_n 2, 1) := by decide +kernel
theorem dX9_about_52 : decode cX9_about 52 = .ok (.bipush 10, 2) := by decide +kernel
theorem dX9_about_54 : decode cX9_about 54 = .ok (.isub, 1) := by decide +kernel
theorem dX9_about_55 : decode cX9_about 55 = .ok (.invokevirtual 156, 3) := by decide +kernel
theorem dX9_about_58 : decode cX9_about 58 = .ok (.ireturn, 1) := by decide +kernel
theorem dX9_as_0 : decode cX9_as 0 = .ok (.aload_n 0, 1) := by decide +kernel
theorem dX9_as_1 : decode cX9_as 1 = .ok (.getfield 62, 3) := by decide +kernel
theorem dX9_as_4 : decode cX9_as 4 = .ok (.iload_n 1, 1) := by decide +kernel
theorem dX9_as_5 : decode cX9_as 5 = .ok (.invokevirtual 144, 3) := by decide +kernel
theorem dX9_as_8 : decode cX9_as 8 = .ok (.ifCond .ne 6, 3) := by decide +kernel
theorem dX9_as_11 : decode cX9_as 11 = .ok (.bipush (-101), 2) := by decide +kernel
theorem dX9_as_13 : decode cX9_as 13 = .ok (.ireturn, 1) := by decide +kernel
theorem dX9_as_14 : decode cX9_as 14 = .ok (.iload_n 2, 1) := by decide +kernel
theorem dX9_as_15 : decode cX9_as 15 = .ok (.iconst 4, 1) := by decide +kernel
theorem dX9_as_16 : decode cX9_as 16 = .ok (.invokestatic 126, 3) := by decide +kernel
theorem dX9_as_19 : decode cX9_as 19 = .ok (.ifCond .ne 6, 3) := by decide +kernel
theorem dX9_as_22 : decode cX9_as 22 = .ok (.bipush (-102), 2) := by decide +kernel
theorem dX9_as_24 : decode cX9_as 24 = .ok (.ireturn, 1) := by decide +kernel
theorem dX9_as_25 : decode cX9_as 25 = .ok (.aload_n 0, 1) := by decide +kernel
theorem dX9_as_26 : decode cX9_as 26 = .ok (.getfield 62, 3) := by decide +kernel
theorem dX9_as_29 : decode cX9_as 29 = .ok (.getfield 150, 3) := by decide +kernel
theorem dX9_as_32 : decode cX9_as 32 = .ok (.iload_n 1, 1) := by decide +kernel
theorem dX9_as_33 : decode cX9_as 33 = .ok (.aaload, 1) := by decide +kernel
theorem dX9_as_34 : decode cX9_as 34 = .ok (.iconst 0, 1) := by decide +kernel
theorem dX9_as_35 : decode cX9_as 35 = .ok (.iaload, 1) := by decide +kernel
theorem dX9_as_36 : decode cX9_as 36 = .ok (.iload_n 2, 1) := by decide +kernel
theorem dX9_as_37 : decode cX9_as 37 = .ok (.invokestatic 153, 3) := by decide +kernel
theorem dX9_as_40 : decode cX9_as 40 = .ok (.ifCond .eq 7, 3) := by decide +kernel
theorem dX9_as_43 : decode cX9_as 43 = .ok (.iload_n 1, 1) := by decide +kernel
theorem dX9_as_44 : decode cX9_as 44 = .ok (.goto 4, 3) := by decide +kernel
theorem dX9_as_47 : decode cX9_as 47 = .ok (.iconst (-1), 1) := by decide +kernel
theorem dX9_as_48 : decode cX9_as 48 = .ok (.ireturn, 1) := by decide +kernel
