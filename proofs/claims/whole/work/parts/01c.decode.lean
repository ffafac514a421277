theorem dX3_init_0 : decode cX3_init 0 = .ok (.aload_n 0, 1) := by decide +kernel
theorem dX3_init_1 : decode cX3_init 1 = .ok (.invokespecial 1, 3) := by decide +kernel
theorem dX3_init_4 : decode cX3_init 4 = .ok (.iload_n 1, 1) := by decide +kernel
theorem dX3_init_5 : decode cX3_init 5 = .ok (.bipush 10, 2) := by decide +kernel
theorem dX3_init_7 : decode cX3_init 7 = .ok (.invokestatic 9, 3) := by decide +kernel
theorem dX3_init_10 : decode cX3_init 10 = .ok (.istore_n 2, 1) := by decide +kernel
theorem dX3_init_11 : decode cX3_init 11 = .ok (.aload_n 0, 1) := by decide +kernel
theorem dX3_init_12 : decode cX3_init 12 = .ok (.iload_n 2, 1) := by decide +kernel
theorem dX3_init_13 : decode cX3_init 13 = .ok (.iconst 2, 1) := by decide +kernel
theorem dX3_init_14 : decode cX3_init 14 = .ok (.invokestatic 15, 3) := by decide +kernel
theorem dX3_init_17 : decode cX3_init 17 = .ok (.putfield 18, 3) := by decide +kernel
theorem dX3_init_20 : decode cX3_init 20 = .ok (.aload_n 0, 1) := by decide +kernel
theorem dX3_init_21 : decode cX3_init 21 = .ok (.aload_n 0, 1) := by decide +kernel
theorem dX3_init_22 : decode cX3_init 22 = .ok (.getfield 18, 3) := by decide +kernel
theorem dX3_init_25 : decode cX3_init 25 = .ok (.invokestatic 22, 3) := by decide +kernel
theorem dX3_init_28 : decode cX3_init 28 = .ok (.putfield 26, 3) := by decide +kernel
theorem dX3_init_31 : decode cX3_init 31 = .ok (.aload_n 0, 1) := by decide +kernel
theorem dX3_init_32 : decode cX3_init 32 = .ok (.aload_n 0, 1) := by decide +kernel
theorem dX3_init_33 : decode cX3_init 33 = .ok (.getfield 18, 3) := by decide +kernel
theorem dX3_init_36 : decode cX3_init 36 = .ok (.invokestatic 30, 3) := by decide +kernel
theorem dX3_init_39 : decode cX3_init 39 = .ok (.putfield 34, 3) := by decide +kernel
theorem dX3_init_42 : decode cX3_init 42 = .ok (.aload_n 0, 1) := by decide +kernel
theorem dX3_init_43 : decode cX3_init 43 = .ok (.new 38, 3) := by decide +kernel
theorem dX3_init_46 : decode cX3_init 46 = .ok (.dup, 1) := by decide +kernel
theorem dX3_init_47 : decode cX3_init 47 = .ok (.invokespecial 40, 3) := by decide +kernel
theorem dX3_init_50 : decode cX3_init 50 = .ok (.putfield 41, 3) := by decide +kernel
theorem dX3_init_53 : decode cX3_init 53 = .ok (.return_, 1) := by decide +kernel
theorem dX3_start_0 : decode cX3_start 0 = .ok (.aload_n 0, 1) := by decide +kernel
theorem dX3_start_1 : decode cX3_start 1 = .ok (.getfield 45, 3) := by decide +kernel
theorem dX3_start_4 : decode cX3_start 4 = .ok (.ifCond .eq 5, 3) := by decide +kernel
theorem dX3_start_7 : decode cX3_start 7 = .ok (.iconst 0, 1) := by decide +kernel
theorem dX3_start_8 : decode cX3_start 8 = .ok (.ireturn, 1) := by decide +kernel
theorem dX3_start_9 : decode cX3_start 9 = .ok (.aload_n 0, 1) := by decide +kernel
theorem dX3_start_10 : decode cX3_start 10 = .ok (.iconst 1, 1) := by decide +kernel
theorem dX3_start_11 : decode cX3_start 11 = .ok (.putfield 45, 3) := by decide +kernel
theorem dX3_start_14 : decode cX3_start 14 = .ok (.aload_n 0, 1) := by decide +kernel
theorem dX3_start_15 : decode cX3_start 15 = .ok (.getfield 26, 3) := by decide +kernel
theorem dX3_start_18 : decode cX3_start 18 = .ok (.iconst 0, 1) := by decide +kernel
theorem dX3_start_19 : decode cX3_start 19 = .ok (.aaload, 1) := by decide +kernel
theorem dX3_start_20 : decode cX3_start 20 = .ok (.iconst 1, 1) := by decide +kernel
theorem dX3_start_21 : decode cX3_start 21 = .ok (.putfield 49, 3) := by decide +kernel
theorem dX3_start_24 : decode cX3_start 24 = .ok (.iconst 1, 1) := by decide +kernel
theorem dX3_start_25 : decode cX3_start 25 = .ok (.ireturn, 1) := by decide +kernel
theorem dX3_send_0 : decode cX3_send 0 = .ok (.aload_n 0, 1) := by decide +kernel
theorem dX3_send_1 : decode cX3_send 1 = .ok (.iload_n 1, 1) := by decide +kernel
theorem dX3_send_2 : decode cX3_send 2 = .ok (.invokevirtual 54, 3) := by decide +kernel
theorem dX3_send_5 : decode cX3_send 5 = .ok (.astore_n 3, 1) := by decide +kernel
theorem dX3_send_6 : decode cX3_send 6 = .ok (.aload_n 0, 1) := by decide +kernel
theorem dX3_send_7 : decode cX3_send 7 = .ok (.iload_n 1, 1) := by decide +kernel
theorem dX3_send_8 : decode cX3_send 8 = .ok (.iload_n 2, 1) := by decide +kernel
theorem dX3_send_9 : decode cX3_send 9 = .ok (.invokevirtual 58, 3) := by decide +kernel
theorem dX3_send_12 : decode cX3_send 12 = .ok (.astore 4, 2) := by decide +kernel
theorem dX3_send_14 : decode cX3_send 14 = .ok (.aload_n 3, 1) := by decide +kernel
theorem dX3_send_15 : decode cX3_send 15 = .ok (.ifnull 15, 3) := by decide +kernel
theorem dX3_send_18 : decode cX3_send 18 = .ok (.aload 4, 2) := by decide +kernel
theorem dX3_send_20 : decode cX3_send 20 = .ok (.ifnull 10, 3) := by decide +kernel
theorem dX3_send_23 : decode cX3_send 23 = .ok (.aload_n 3, 1) := by decide +kernel
theorem dX3_send_24 : decode cX3_send 24 = .ok (.invokevirtual 62, 3) := by decide +kernel
theorem dX3_send_27 : decode cX3_send 27 = .ok (.ifCond .ne 5, 3) := by decide +kernel
theorem dX3_send_30 : decode cX3_send 30 = .ok (.iconst 0, 1) := by decide +kernel
theorem dX3_send_31 : decode cX3_send 31 = .ok (.ireturn, 1) := by decide +kernel
theorem dX3_send_32 : decode cX3_send 32 = .ok (.aload 4, 2) := by decide +kernel
theorem dX3_send_34 : decode cX3_send 34 = .ok (.getfield 66, 3) := by decide +kernel
theorem dX3_send_37 : decode cX3_send 37 = .ok (.bipush 20, 2) := by decide +kernel
theorem dX3_send_39 : decode cX3_send 39 = .ok (.if_icmp .ge 12, 3) := by decide +kernel
theorem dX3_send_42 : decode cX3_send 42 = .ok (.aload_n 3, 1) := by decide +kernel
theorem dX3_send_43 : decode cX3_send 43 = .ok (.getfield 71, 3) := by decide +kernel
theorem dX3_send_46 : decode cX3_send 46 = .ok (.bipush 100, 2) := by decide +kernel
theorem dX3_send_48 : decode cX3_send 48 = .ok (.if_icmp .lt 5, 3) := by decide +kernel
theorem dX3_send_51 : decode cX3_send 51 = .ok (.iconst 0, 1) := by decide +kernel
theorem dX3_send_52 : decode cX3_send 52 = .ok (.ireturn, 1) := by decide +kernel
theorem dX3_send_53 : decode cX3_send 53 = .ok (.aload 4, 2) := by decide +kernel
theorem dX3_send_55 : decode cX3_send 55 = .ok (.iconst 1, 1) := by decide +kernel
theorem dX3_send_56 : decode cX3_send 56 = .ok (.invokevirtual 74, 3) := by decide +kernel
theorem dX3_send_59 : decode cX3_send 59 = .ok (.aload_n 3, 1) := by decide +kernel
theorem dX3_send_60 : decode cX3_send 60 = .ok (.dup, 1) := by decide +kernel
theorem dX3_send_61 : decode cX3_send 61 = .ok (.getfield 71, 3) := by decide +kernel
theorem dX3_send_64 : decode cX3_send 64 = .ok (.iconst 1, 1) := by decide +kernel
theorem dX3_send_65 : decode cX3_send 65 = .ok (.iadd, 1) := by decide +kernel
theorem dX3_send_66 : decode cX3_send 66 = .ok (.putfield 71, 3) := by decide +kernel
theorem dX3_send_69 : decode cX3_send 69 = .ok (.aload_n 3, 1) := by decide +kernel
theorem dX3_send_70 : decode cX3_send 70 = .ok (.dup, 1) := by decide +kernel
theorem dX3_send_71 : decode cX3_send 71 = .ok (.getfield 78, 3) := by decide +kernel
theorem dX3_send_74 : decode cX3_send 74 = .ok (.iconst 1, 1) := by decide +kernel
theorem dX3_send_75 : decode cX3_send 75 = .ok (.iadd, 1) := by decide +kernel
theorem dX3_send_76 : decode cX3_send 76 = .ok (.putfield 78, 3) := by decide +kernel
theorem dX3_send_79 : decode cX3_send 79 = .ok (.iconst 1, 1) := by decide +kernel
theorem dX3_send_80 : decode cX3_send 80 = .ok (.ireturn, 1) := by decide +kernel
theorem dX3_rest_0 : decode cX3_rest 0 = .ok (.aload_n 0, 1) := by decide +kernel
theorem dX3_rest_1 : decode cX3_rest 1 = .ok (.iload_n 1, 1) := by decide +kernel
theorem dX3_rest_2 : decode cX3_rest 2 = .ok (.invokevirtual 54, 3) := by decide +kernel
theorem dX3_rest_5 : decode cX3_rest 5 = .ok (.astore_n 2, 1) := by decide +kernel
theorem dX3_rest_6 : decode cX3_rest 6 = .ok (.aload_n 2, 1) := by decide +kernel
theorem dX3_rest_7 : decode cX3_rest 7 = .ok (.ifnull 10, 3) := by decide +kernel
theorem dX3_rest_10 : decode cX3_rest 10 = .ok (.aload_n 2, 1) := by decide +kernel
theorem dX3_rest_11 : decode cX3_rest 11 = .ok (.invokevirtual 62, 3) := by decide +kernel
theorem dX3_rest_14 : decode cX3_rest 14 = .ok (.ifCond .ne 5, 3) := by decide +kernel
theorem dX3_rest_17 : decode cX3_rest 17 = .ok (.iconst 0, 1) := by decide +kernel
theorem dX3_rest_18 : decode cX3_rest 18 = .ok (.ireturn, 1) := by decide +kernel
theorem dX3_rest_19 : decode cX3_rest 19 = .ok (.aload_n 2, 1) := by decide +kernel
theorem dX3_rest_20 : decode cX3_rest 20 = .ok (.iconst 0, 1) := by decide +kernel
theorem dX3_rest_21 : decode cX3_rest 21 = .ok (.putfield 49, 3) := by decide +kernel
theorem dX3_rest_24 : decode cX3_rest 24 = .ok (.aload_n 0, 1) := by decide +kernel
theorem dX3_rest_25 : decode cX3_rest 25 = .ok (.iload_n 1, 1) := by decide +kernel
theorem dX3_rest_26 : decode cX3_rest 26 = .ok (.aload_n 2, 1) := by decide +kernel
theorem dX3_rest_27 : decode cX3_rest 27 = .ok (.invokevirtual 81, 3) := by decide +kernel
theorem dX3_rest_30 : decode cX3_rest 30 = .ok (.iconst 1, 1) := by decide +kernel
theorem dX3_rest_31 : decode cX3_rest 31 = .ok (.ireturn, 1) := by decide +kernel
theorem dX3_ask_0 : decode cX3_ask 0 = .ok (.aload_n 0, 1) := by decide +kernel
theorem dX3_ask_1 : decode cX3_ask 1 = .ok (.iload_n 1, 1) := by decide +kernel
theorem dX3_ask_2 : decode cX3_ask 2 = .ok (.invokevirtual 54, 3) := by decide +kernel
theorem dX3_ask_5 : decode cX3_ask 5 = .ok (.astore_n 3, 1) := by decide +kernel
theorem dX3_ask_6 : decode cX3_ask 6 = .ok (.aload_n 3, 1) := by decide +kernel
theorem dX3_ask_7 : decode cX3_ask 7 = .ok (.ifnull 10, 3) := by decide +kernel
theorem dX3_ask_10 : decode cX3_ask 10 = .ok (.aload_n 3, 1) := by decide +kernel
theorem dX3_ask_11 : decode cX3_ask 11 = .ok (.invokevirtual 62, 3) := by decide +kernel
theorem dX3_ask_14 : decode cX3_ask 14 = .ok (.ifCond .ne 5, 3) := by decide +kernel
theorem dX3_ask_17 : decode cX3_ask 17 = .ok (.iconst (-1), 1) := by decide +kernel
theorem dX3_ask_18 : decode cX3_ask 18 = .ok (.ireturn, 1) := by decide +kernel
theorem dX3_ask_19 : decode cX3_ask 19 = .ok (.iload_n 2, 1) := by decide +kernel
theorem dX3_ask_20 : decode cX3_ask 20 = .ok (.aload_n 0, 1) := by decide +kernel
theorem dX3_ask_21 : decode cX3_ask 21 = .ok (.getfield 18, 3) := by decide +kernel
theorem dX3_ask_24 : decode cX3_ask 24 = .ok (.invokestatic 85, 3) := by decide +kernel
theorem dX3_ask_27 : decode cX3_ask 27 = .ok (.iand, 1) := by decide +kernel
theorem dX3_ask_28 : decode cX3_ask 28 = .ok (.iload_n 1, 1) := by decide +kernel
theorem dX3_ask_29 : decode cX3_ask 29 = .ok (.invokestatic 89, 3) := by decide +kernel
theorem dX3_ask_32 : decode cX3_ask 32 = .ok (.iconst (-1), 1) := by decide +kernel
theorem dX3_ask_33 : decode cX3_ask 33 = .ok (.ixor, 1) := by decide +kernel
theorem dX3_ask_34 : decode cX3_ask 34 = .ok (.iand, 1) := by decide +kernel
theorem dX3_ask_35 : decode cX3_ask 35 = .ok (.istore 4, 2) := by decide +kernel
theorem dX3_ask_37 : decode cX3_ask 37 = .ok (.iload 4, 2) := by decide +kernel
theorem dX3_ask_39 : decode cX3_ask 39 = .ok (.ifCond .ne 5, 3) := by decide +kernel
theorem dX3_ask_42 : decode cX3_ask 42 = .ok (.iconst (-1), 1) := by decide +kernel
theorem dX3_ask_43 : decode cX3_ask 43 = .ok (.ireturn, 1) := by decide +kernel
theorem dX3_ask_44 : decode cX3_ask 44 = .ok (.aload_n 3, 1) := by decide +kernel
theorem dX3_ask_45 : decode cX3_ask 45 = .ok (.iload 4, 2) := by decide +kernel
theorem dX3_ask_47 : decode cX3_ask 47 = .ok (.putfield 92, 3) := by decide +kernel
theorem dX3_ask_50 : decode cX3_ask 50 = .ok (.aload_n 0, 1) := by decide +kernel
theorem dX3_ask_51 : decode cX3_ask 51 = .ok (.iload_n 1, 1) := by decide +kernel
theorem dX3_ask_52 : decode cX3_ask 52 = .ok (.iload 4, 2) := by decide +kernel
theorem dX3_ask_54 : decode cX3_ask 54 = .ok (.iconst 4, 1) := by decide +kernel
theorem dX3_ask_55 : decode cX3_ask 55 = .ok (.invokevirtual 95, 3) := by decide +kernel
theorem dX3_ask_58 : decode cX3_ask 58 = .ok (.iload 4, 2) := by decide +kernel
theorem dX3_ask_60 : decode cX3_ask 60 = .ok (.invokestatic 99, 3) := by decide +kernel
theorem dX3_ask_63 : decode cX3_ask 63 = .ok (.ireturn, 1) := by decide +kernel
theorem dX3_answer_0 : decode cX3_answer 0 = .ok (.aload_n 0, 1) := by decide +kernel
theorem dX3_answer_1 : decode cX3_answer 1 = .ok (.iload_n 1, 1) := by decide +kernel
theorem dX3_answer_2 : decode cX3_answer 2 = .ok (.invokevirtual 54, 3) := by decide +kernel
theorem dX3_answer_5 : decode cX3_answer 5 = .ok (.astore_n 3, 1) := by decide +kernel
theorem dX3_answer_6 : decode cX3_answer 6 = .ok (.aload_n 0, 1) := by decide +kernel
theorem dX3_answer_7 : decode cX3_answer 7 = .ok (.iload_n 2, 1) := by decide +kernel
theorem dX3_answer_8 : decode cX3_answer 8 = .ok (.invokevirtual 54, 3) := by decide +kernel
theorem dX3_answer_11 : decode cX3_answer 11 = .ok (.astore 4, 2) := by decide +kernel
theorem dX3_answer_13 : decode cX3_answer 13 = .ok (.aload_n 3, 1) := by decide +kernel
theorem dX3_answer_14 : decode cX3_answer 14 = .ok (.ifnull 8, 3) := by decide +kernel
theorem dX3_answer_17 : decode cX3_answer 17 = .ok (.aload 4, 2) := by decide +kernel
theorem dX3_answer_19 : decode cX3_answer 19 = .ok (.ifnonnull 5, 3) := by decide +kernel
theorem dX3_answer_22 : decode cX3_answer 22 = .ok (.iconst 0, 1) := by decide +kernel
theorem dX3_answer_23 : decode cX3_answer 23 = .ok (.ireturn, 1) := by decide +kernel
theorem dX3_answer_24 : decode cX3_answer 24 = .ok (.aload_n 3, 1) := by decide +kernel
theorem dX3_answer_25 : decode cX3_answer 25 = .ok (.invokevirtual 104, 3) := by decide +kernel
theorem dX3_answer_28 : decode cX3_answer 28 = .ok (.ifCond .ne 14, 3) := by decide +kernel
theorem dX3_answer_31 : decode cX3_answer 31 = .ok (.aload_n 3, 1) := by decide +kernel
theorem dX3_answer_32 : decode cX3_answer 32 = .ok (.getfield 107, 3) := by decide +kernel
theorem dX3_answer_35 : decode cX3_answer 35 = .ok (.iload_n 2, 1) := by decide +kernel
theorem dX3_answer_36 : decode cX3_answer 36 = .ok (.invokestatic 110, 3) := by decide +kernel
theorem dX3_answer_39 : decode cX3_answer 39 = .ok (.ifCond .ne 5, 3) := by decide +kernel
theorem dX3_answer_42 : decode cX3_answer 42 = .ok (.iconst 0, 1) := by decide +kernel
theorem dX3_answer_43 : decode cX3_answer 43 = .ok (.ireturn, 1) := by decide +kernel
theorem dX3_answer_44 : decode cX3_answer 44 = .ok (.aload_n 3, 1) := by decide +kernel
theorem dX3_answer_45 : decode cX3_answer 45 = .ok (.dup, 1) := by decide +kernel
theorem dX3_answer_46 : decode cX3_answer 46 = .ok (.getfield 107, 3) := by decide +kernel
theorem dX3_answer_49 : decode cX3_answer 49 = .ok (.iload_n 2, 1) := by decide +kernel
theorem dX3_answer_50 : decode cX3_answer 50 = .ok (.invokestatic 89, 3) := by decide +kernel
theorem dX3_answer_53 : decode cX3_answer 53 = .ok (.iconst (-1), 1) := by decide +kernel
theorem dX3_answer_54 : decode cX3_answer 54 = .ok (.ixor, 1) := by decide +kernel
theorem dX3_answer_55 : decode cX3_answer 55 = .ok (.iand, 1) := by decide +kernel
theorem dX3_answer_56 : decode cX3_answer 56 = .ok (.putfield 107, 3) := by decide +kernel
theorem dX3_answer_59 : decode cX3_answer 59 = .ok (.aload 4, 2) := by decide +kernel
theorem dX3_answer_61 : decode cX3_answer 61 = .ok (.dup, 1) := by decide +kernel
theorem dX3_answer_62 : decode cX3_answer 62 = .ok (.getfield 114, 3) := by decide +kernel
theorem dX3_answer_65 : decode cX3_answer 65 = .ok (.iload_n 1, 1) := by decide +kernel
theorem dX3_answer_66 : decode cX3_answer 66 = .ok (.invokestatic 89, 3) := by decide +kernel
theorem dX3_answer_69 : decode cX3_answer 69 = .ok (.ior, 1) := by decide +kernel
theorem dX3_answer_70 : decode cX3_answer 70 = .ok (.putfield 114, 3) := by decide +kernel
theorem dX3_answer_73 : decode cX3_answer 73 = .ok (.aload_n 0, 1) := by decide +kernel
theorem dX3_answer_74 : decode cX3_answer 74 = .ok (.iload_n 1, 1) := by decide +kernel
theorem dX3_answer_75 : decode cX3_answer 75 = .ok (.iload_n 2, 1) := by decide +kernel
theorem dX3_answer_76 : decode cX3_answer 76 = .ok (.iconst 5, 1) := by decide +kernel
theorem dX3_answer_77 : decode cX3_answer 77 = .ok (.invokevirtual 117, 3) := by decide +kernel
theorem dX3_answer_80 : decode cX3_answer 80 = .ok (.iconst 1, 1) := by decide +kernel
theorem dX3_answer_81 : decode cX3_answer 81 = .ok (.ireturn, 1) := by decide +kernel
theorem dX3_probe_0 : decode cX3_probe 0 = .ok (.aload_n 0, 1) := by decide +kernel
theorem dX3_probe_1 : decode cX3_probe 1 = .ok (.iload_n 1, 1) := by decide +kernel
theorem dX3_probe_2 : decode cX3_probe 2 = .ok (.invokevirtual 54, 3) := by decide +kernel
theorem dX3_probe_5 : decode cX3_probe 5 = .ok (.astore_n 2, 1) := by decide +kernel
theorem dX3_probe_6 : decode cX3_probe 6 = .ok (.aload_n 2, 1) := by decide +kernel
theorem dX3_probe_7 : decode cX3_probe 7 = .ok (.ifnull 19, 3) := by decide +kernel
theorem dX3_probe_10 : decode cX3_probe 10 = .ok (.aload_n 2, 1) := by decide +kernel
theorem dX3_probe_11 : decode cX3_probe 11 = .ok (.invokevirtual 104, 3) := by decide +kernel
theorem dX3_probe_14 : decode cX3_probe 14 = .ok (.ifCond .eq 12, 3) := by decide +kernel
theorem dX3_probe_17 : decode cX3_probe 17 = .ok (.aload_n 2, 1) := by decide +kernel
theorem dX3_probe_18 : decode cX3_probe 18 = .ok (.getfield 120, 3) := by decide +kernel
theorem dX3_probe_21 : decode cX3_probe 21 = .ok (.bipush 50, 2) := by decide +kernel
theorem dX3_probe_23 : decode cX3_probe 23 = .ok (.if_icmp .lt 5, 3) := by decide +kernel
theorem dX3_probe_26 : decode cX3_probe 26 = .ok (.iconst (-1), 1) := by decide +kernel
theorem dX3_probe_27 : decode cX3_probe 27 = .ok (.ireturn, 1) := by decide +kernel
theorem dX3_probe_28 : decode cX3_probe 28 = .ok (.aload_n 2, 1) := by decide +kernel
theorem dX3_probe_29 : decode cX3_probe 29 = .ok (.dup, 1) := by decide +kernel
theorem dX3_probe_30 : decode cX3_probe 30 = .ok (.getfield 120, 3) := by decide +kernel
theorem dX3_probe_33 : decode cX3_probe 33 = .ok (.iconst 1, 1) := by decide +kernel
theorem dX3_probe_34 : decode cX3_probe 34 = .ok (.iadd, 1) := by decide +kernel
theorem dX3_probe_35 : decode cX3_probe 35 = .ok (.putfield 120, 3) := by decide +kernel
theorem dX3_probe_38 : decode cX3_probe 38 = .ok (.aload_n 0, 1) := by decide +kernel
theorem dX3_probe_39 : decode cX3_probe 39 = .ok (.iload_n 1, 1) := by decide +kernel
theorem dX3_probe_40 : decode cX3_probe 40 = .ok (.aload_n 2, 1) := by decide +kernel
theorem dX3_probe_41 : decode cX3_probe 41 = .ok (.getfield 92, 3) := by decide +kernel
theorem dX3_probe_44 : decode cX3_probe 44 = .ok (.iload_n 1, 1) := by decide +kernel
theorem dX3_probe_45 : decode cX3_probe 45 = .ok (.aload_n 2, 1) := by decide +kernel
theorem dX3_probe_46 : decode cX3_probe 46 = .ok (.getfield 120, 3) := by decide +kernel
theorem dX3_probe_49 : decode cX3_probe 49 = .ok (.invokestatic 123, 3) := by decide +kernel
theorem dX3_probe_52 : decode cX3_probe 52 = .ok (.invokevirtual 95, 3) := by decide +kernel
theorem dX3_probe_55 : decode cX3_probe 55 = .ok (.aload_n 2, 1) := by decide +kernel
theorem dX3_probe_56 : decode cX3_probe 56 = .ok (.getfield 120, 3) := by decide +kernel
theorem dX3_probe_59 : decode cX3_probe 59 = .ok (.ireturn, 1) := by decide +kernel
theorem dX3_pass_0 : decode cX3_pass 0 = .ok (.aload_n 0, 1) := by decide +kernel
theorem dX3_pass_1 : decode cX3_pass 1 = .ok (.iload_n 1, 1) := by decide +kernel
theorem dX3_pass_2 : decode cX3_pass 2 = .ok (.invokevirtual 54, 3) := by decide +kernel
theorem dX3_pass_5 : decode cX3_pass 5 = .ok (.astore_n 2, 1) := by decide +kernel
theorem dX3_pass_6 : decode cX3_pass 6 = .ok (.aload_n 2, 1) := by decide +kernel
theorem dX3_pass_7 : decode cX3_pass 7 = .ok (.ifnull 35, 3) := by decide +kernel
theorem dX3_pass_10 : decode cX3_pass 10 = .ok (.aload_n 0, 1) := by decide +kernel
theorem dX3_pass_11 : decode cX3_pass 11 = .ok (.getfield 41, 3) := by decide +kernel
theorem dX3_pass_14 : decode cX3_pass 14 = .ok (.getfield 126, 3) := by decide +kernel
theorem dX3_pass_17 : decode cX3_pass 17 = .ok (.iload_n 1, 1) := by decide +kernel
theorem dX3_pass_18 : decode cX3_pass 18 = .ok (.if_icmp .ne 24, 3) := by decide +kernel
theorem dX3_pass_21 : decode cX3_pass 21 = .ok (.aload_n 2, 1) := by decide +kernel
theorem dX3_pass_22 : decode cX3_pass 22 = .ok (.getfield 49, 3) := by decide +kernel
theorem dX3_pass_25 : decode cX3_pass 25 = .ok (.ifCond .ne 17, 3) := by decide +kernel
theorem dX3_pass_28 : decode cX3_pass 28 = .ok (.aload_n 0, 1) := by decide +kernel
theorem dX3_pass_29 : decode cX3_pass 29 = .ok (.getfield 45, 3) := by decide +kernel
theorem dX3_pass_32 : decode cX3_pass 32 = .ok (.ifCond .eq 10, 3) := by decide +kernel
theorem dX3_pass_35 : decode cX3_pass 35 = .ok (.aload_n 0, 1) := by decide +kernel
theorem dX3_pass_36 : decode cX3_pass 36 = .ok (.getfield 129, 3) := by decide +kernel
theorem dX3_pass_39 : decode cX3_pass 39 = .ok (.ifCond .eq 5, 3) := by decide +kernel
theorem dX3_pass_42 : decode cX3_pass 42 = .ok (.iconst (-1), 1) := by decide +kernel
theorem dX3_pass_43 : decode cX3_pass 43 = .ok (.ireturn, 1) := by decide +kernel
theorem dX3_pass_44 : decode cX3_pass 44 = .ok (.iload_n 1, 1) := by decide +kernel
theorem dX3_pass_45 : decode cX3_pass 45 = .ok (.ifCond .eq 21, 3) := by decide +kernel
theorem dX3_pass_48 : decode cX3_pass 48 = .ok (.aload_n 0, 1) := by decide +kernel
theorem dX3_pass_49 : decode cX3_pass 49 = .ok (.getfield 41, 3) := by decide +kernel
theorem dX3_pass_52 : decode cX3_pass 52 = .ok (.aload_n 2, 1) := by decide +kernel
theorem dX3_pass_53 : decode cX3_pass 53 = .ok (.invokevirtual 132, 3) := by decide +kernel
theorem dX3_pass_56 : decode cX3_pass 56 = .ok (.aload_n 0, 1) := by decide +kernel
theorem dX3_pass_57 : decode cX3_pass 57 = .ok (.iload_n 1, 1) := by decide +kernel
theorem dX3_pass_58 : decode cX3_pass 58 = .ok (.iload_n 1, 1) := by decide +kernel
theorem dX3_pass_59 : decode cX3_pass 59 = .ok (.iconst 1, 1) := by decide +kernel
theorem dX3_pass_60 : decode cX3_pass 60 = .ok (.isub, 1) := by decide +kernel
theorem dX3_pass_61 : decode cX3_pass 61 = .ok (.invokevirtual 136, 3) := by decide +kernel
theorem dX3_pass_64 : decode cX3_pass 64 = .ok (.iconst 1, 1) := by decide +kernel
theorem dX3_pass_65 : decode cX3_pass 65 = .ok (.ireturn, 1) := by decide +kernel
theorem dX3_pass_66 : decode cX3_pass 66 = .ok (.aload_n 0, 1) := by decide +kernel
theorem dX3_pass_67 : decode cX3_pass 67 = .ok (.getfield 41, 3) := by decide +kernel
theorem dX3_pass_70 : decode cX3_pass 70 = .ok (.aload_n 2, 1) := by decide +kernel
theorem dX3_pass_71 : decode cX3_pass 71 = .ok (.invokevirtual 140, 3) := by decide +kernel
theorem dX3_pass_74 : decode cX3_pass 74 = .ok (.ifCond .eq 14, 3) := by decide +kernel
theorem dX3_pass_77 : decode cX3_pass 77 = .ok (.aload_n 0, 1) := by decide +kernel
theorem dX3_pass_78 : decode cX3_pass 78 = .ok (.iconst 1, 1) := by decide +kernel
theorem dX3_pass_79 : decode cX3_pass 79 = .ok (.putfield 129, 3) := by decide +kernel
theorem dX3_pass_82 : decode cX3_pass 82 = .ok (.aload_n 0, 1) := by decide +kernel
theorem dX3_pass_83 : decode cX3_pass 83 = .ok (.invokevirtual 144, 3) := by decide +kernel
theorem dX3_pass_86 : decode cX3_pass 86 = .ok (.iconst 2, 1) := by decide +kernel
theorem dX3_pass_87 : decode cX3_pass 87 = .ok (.ireturn, 1) := by decide +kernel
theorem dX3_pass_88 : decode cX3_pass 88 = .ok (.aload_n 0, 1) := by decide +kernel
theorem dX3_pass_89 : decode cX3_pass 89 = .ok (.getfield 41, 3) := by decide +kernel
theorem dX3_pass_92 : decode cX3_pass 92 = .ok (.invokevirtual 147, 3) := by decide +kernel
theorem dX3_pass_95 : decode cX3_pass 95 = .ok (.aload_n 2, 1) := by decide +kernel
theorem dX3_pass_96 : decode cX3_pass 96 = .ok (.iconst 0, 1) := by decide +kernel
theorem dX3_pass_97 : decode cX3_pass 97 = .ok (.putfield 150, 3) := by decide +kernel
theorem dX3_pass_100 : decode cX3_pass 100 = .ok (.aload_n 0, 1) := by decide +kernel
theorem dX3_pass_101 : decode cX3_pass 101 = .ok (.iconst 0, 1) := by decide +kernel
theorem dX3_pass_102 : decode cX3_pass 102 = .ok (.aload_n 0, 1) := by decide +kernel
theorem dX3_pass_103 : decode cX3_pass 103 = .ok (.getfield 18, 3) := by decide +kernel
theorem dX3_pass_106 : decode cX3_pass 106 = .ok (.iconst 1, 1) := by decide +kernel
theorem dX3_pass_107 : decode cX3_pass 107 = .ok (.isub, 1) := by decide +kernel
theorem dX3_pass_108 : decode cX3_pass 108 = .ok (.invokevirtual 136, 3) := by decide +kernel
theorem dX3_pass_111 : decode cX3_pass 111 = .ok (.iconst 1, 1) := by decide +kernel
theorem dX3_pass_112 : decode cX3_pass 112 = .ok (.ireturn, 1) := by decide +kernel
theorem dX3_receive_0 : decode cX3_receive 0 = .ok (.aload_n 0, 1) := by decide +kernel
theorem dX3_receive_1 : decode cX3_receive 1 = .ok (.iload_n 1, 1) := by decide +kernel
theorem dX3_receive_2 : decode cX3_receive 2 = .ok (.iload_n 2, 1) := by decide +kernel
theorem dX3_receive_3 : decode cX3_receive 3 = .ok (.invokevirtual 58, 3) := by decide +kernel
theorem dX3_receive_6 : decode cX3_receive 6 = .ok (.astore_n 3, 1) := by decide +kernel
theorem dX3_receive_7 : decode cX3_receive 7 = .ok (.aload_n 0, 1) := by decide +kernel
theorem dX3_receive_8 : decode cX3_receive 8 = .ok (.iload_n 2, 1) := by decide +kernel
theorem dX3_receive_9 : decode cX3_receive 9 = .ok (.invokevirtual 54, 3) := by decide +kernel
theorem dX3_receive_12 : decode cX3_receive 12 = .ok (.astore 4, 2) := by decide +kernel
theorem dX3_receive_14 : decode cX3_receive 14 = .ok (.aload_n 3, 1) := by decide +kernel
theorem dX3_receive_15 : decode cX3_receive 15 = .ok (.ifnull 15, 3) := by decide +kernel
theorem dX3_receive_18 : decode cX3_receive 18 = .ok (.aload 4, 2) := by decide +kernel
theorem dX3_receive_20 : decode cX3_receive 20 = .ok (.ifnull 10, 3) := by decide +kernel
theorem dX3_receive_23 : decode cX3_receive 23 = .ok (.aload_n 3, 1) := by decide +kernel
theorem dX3_receive_24 : decode cX3_receive 24 = .ok (.getfield 153, 3) := by decide +kernel
theorem dX3_receive_27 : decode cX3_receive 27 = .ok (.ifCond .ne 5, 3) := by decide +kernel
theorem dX3_receive_30 : decode cX3_receive 30 = .ok (.iconst (-1), 1) := by decide +kernel
theorem dX3_receive_31 : decode cX3_receive 31 = .ok (.ireturn, 1) := by decide +kernel
theorem dX3_receive_32 : decode cX3_receive 32 = .ok (.aload_n 3, 1) := by decide +kernel
theorem dX3_receive_33 : decode cX3_receive 33 = .ok (.invokevirtual 156, 3) := by decide +kernel
theorem dX3_receive_36 : decode cX3_receive 36 = .ok (.istore 5, 2) := by decide +kernel
theorem dX3_receive_38 : decode cX3_receive 38 = .ok (.aload_n 0, 1) := by decide +kernel
theorem dX3_receive_39 : decode cX3_receive 39 = .ok (.dup, 1) := by decide +kernel
theorem dX3_receive_40 : decode cX3_receive 40 = .ok (.getfield 160, 3) := by decide +kernel
theorem dX3_receive_43 : decode cX3_receive 43 = .ok (.iconst 1, 1) := by decide +kernel
theorem dX3_receive_44 : decode cX3_receive 44 = .ok (.iadd, 1) := by decide +kernel
theorem dX3_receive_45 : decode cX3_receive 45 = .ok (.putfield 160, 3) := by decide +kernel
theorem dX3_receive_48 : decode cX3_receive 48 = .ok (.iload 5, 2) := by decide +kernel
theorem dX3_receive_50 : decode cX3_receive 50 = .ok (.invokestatic 163, 3) := by decide +kernel
theorem dX3_receive_53 : decode cX3_receive 53 = .ok (.tableswitch 130 1 5 #[35, 46, 67, 78, 95], 35) := by decide +kernel
theorem dX3_receive_88 : decode cX3_receive 88 = .ok (.aload_n 0, 1) := by decide +kernel
theorem dX3_receive_89 : decode cX3_receive 89 = .ok (.iload_n 1, 1) := by decide +kernel
theorem dX3_receive_90 : decode cX3_receive 90 = .ok (.iload_n 2, 1) := by decide +kernel
theorem dX3_receive_91 : decode cX3_receive 91 = .ok (.aload 4, 2) := by decide +kernel
theorem dX3_receive_93 : decode cX3_receive 93 = .ok (.invokevirtual 166, 3) := by decide +kernel
theorem dX3_receive_96 : decode cX3_receive 96 = .ok (.goto 97, 3) := by decide +kernel
theorem dX3_receive_99 : decode cX3_receive 99 = .ok (.aload 4, 2) := by decide +kernel
theorem dX3_receive_101 : decode cX3_receive 101 = .ok (.dup, 1) := by decide +kernel
theorem dX3_receive_102 : decode cX3_receive 102 = .ok (.getfield 71, 3) := by decide +kernel
theorem dX3_receive_105 : decode cX3_receive 105 = .ok (.iconst 1, 1) := by decide +kernel
theorem dX3_receive_106 : decode cX3_receive 106 = .ok (.isub, 1) := by decide +kernel
theorem dX3_receive_107 : decode cX3_receive 107 = .ok (.putfield 71, 3) := by decide +kernel
theorem dX3_receive_110 : decode cX3_receive 110 = .ok (.aload_n 0, 1) := by decide +kernel
theorem dX3_receive_111 : decode cX3_receive 111 = .ok (.iload_n 2, 1) := by decide +kernel
theorem dX3_receive_112 : decode cX3_receive 112 = .ok (.aload 4, 2) := by decide +kernel
theorem dX3_receive_114 : decode cX3_receive 114 = .ok (.invokevirtual 81, 3) := by decide +kernel
theorem dX3_receive_117 : decode cX3_receive 117 = .ok (.goto 76, 3) := by decide +kernel
theorem dX3_receive_120 : decode cX3_receive 120 = .ok (.aload_n 0, 1) := by decide +kernel
theorem dX3_receive_121 : decode cX3_receive 121 = .ok (.getfield 41, 3) := by decide +kernel
theorem dX3_receive_124 : decode cX3_receive 124 = .ok (.iload_n 2, 1) := by decide +kernel
theorem dX3_receive_125 : decode cX3_receive 125 = .ok (.putfield 126, 3) := by decide +kernel
theorem dX3_receive_128 : decode cX3_receive 128 = .ok (.goto 65, 3) := by decide +kernel
theorem dX3_receive_131 : decode cX3_receive 131 = .ok (.aload 4, 2) := by decide +kernel
theorem dX3_receive_133 : decode cX3_receive 133 = .ok (.dup, 1) := by decide +kernel
theorem dX3_receive_134 : decode cX3_receive 134 = .ok (.getfield 107, 3) := by decide +kernel
theorem dX3_receive_137 : decode cX3_receive 137 = .ok (.iload_n 1, 1) := by decide +kernel
theorem dX3_receive_138 : decode cX3_receive 138 = .ok (.invokestatic 89, 3) := by decide +kernel
theorem dX3_receive_141 : decode cX3_receive 141 = .ok (.ior, 1) := by decide +kernel
theorem dX3_receive_142 : decode cX3_receive 142 = .ok (.putfield 107, 3) := by decide +kernel
theorem dX3_receive_145 : decode cX3_receive 145 = .ok (.goto 48, 3) := by decide +kernel
theorem dX3_receive_148 : decode cX3_receive 148 = .ok (.aload 4, 2) := by decide +kernel
theorem dX3_receive_150 : decode cX3_receive 150 = .ok (.dup, 1) := by decide +kernel
theorem dX3_receive_151 : decode cX3_receive 151 = .ok (.getfield 92, 3) := by decide +kernel
theorem dX3_receive_154 : decode cX3_receive 154 = .ok (.iload_n 1, 1) := by decide +kernel
theorem dX3_receive_155 : decode cX3_receive 155 = .ok (.invokestatic 89, 3) := by decide +kernel
theorem dX3_receive_158 : decode cX3_receive 158 = .ok (.iconst (-1), 1) := by decide +kernel
theorem dX3_receive_159 : decode cX3_receive 159 = .ok (.ixor, 1) := by decide +kernel
theorem dX3_receive_160 : decode cX3_receive 160 = .ok (.iand, 1) := by decide +kernel
theorem dX3_receive_161 : decode cX3_receive 161 = .ok (.putfield 92, 3) := by decide +kernel
theorem dX3_receive_164 : decode cX3_receive 164 = .ok (.aload 4, 2) := by decide +kernel
theorem dX3_receive_166 : decode cX3_receive 166 = .ok (.dup, 1) := by decide +kernel
theorem dX3_receive_167 : decode cX3_receive 167 = .ok (.getfield 114, 3) := by decide +kernel
theorem dX3_receive_170 : decode cX3_receive 170 = .ok (.iload_n 1, 1) := by decide +kernel
theorem dX3_receive_171 : decode cX3_receive 171 = .ok (.invokestatic 89, 3) := by decide +kernel
theorem dX3_receive_174 : decode cX3_receive 174 = .ok (.iconst (-1), 1) := by decide +kernel
theorem dX3_receive_175 : decode cX3_receive 175 = .ok (.ixor, 1) := by decide +kernel
theorem dX3_receive_176 : decode cX3_receive 176 = .ok (.iand, 1) := by decide +kernel
theorem dX3_receive_177 : decode cX3_receive 177 = .ok (.putfield 114, 3) := by decide +kernel
theorem dX3_receive_180 : decode cX3_receive 180 = .ok (.goto 13, 3) := by decide +kernel
theorem dX3_receive_183 : decode cX3_receive 183 = .ok (.aload_n 0, 1) := by decide +kernel
theorem dX3_receive_184 : decode cX3_receive 184 = .ok (.iload_n 1, 1) := by decide +kernel
theorem dX3_receive_185 : decode cX3_receive 185 = .ok (.iload_n 2, 1) := by decide +kernel
theorem dX3_receive_186 : decode cX3_receive 186 = .ok (.aload 4, 2) := by decide +kernel
theorem dX3_receive_188 : decode cX3_receive 188 = .ok (.iload 5, 2) := by decide +kernel
theorem dX3_receive_190 : decode cX3_receive 190 = .ok (.invokevirtual 170, 3) := by decide +kernel
theorem dX3_receive_193 : decode cX3_receive 193 = .ok (.iload 5, 2) := by decide +kernel
theorem dX3_receive_195 : decode cX3_receive 195 = .ok (.invokestatic 163, 3) := by decide +kernel
theorem dX3_receive_198 : decode cX3_receive 198 = .ok (.ireturn, 1) := by decide +kernel
theorem dX3_run_0 : decode cX3_run 0 = .ok (.iload_n 1, 1) := by decide +kernel
theorem dX3_run_1 : decode cX3_run 1 = .ok (.ifCond .lt 10, 3) := by decide +kernel
theorem dX3_run_4 : decode cX3_run 4 = .ok (.iload_n 1, 1) := by decide +kernel
theorem dX3_run_5 : decode cX3_run 5 = .ok (.sipush 2000, 3) := by decide +kernel
theorem dX3_run_8 : decode cX3_run 8 = .ok (.if_icmp .le 5, 3) := by decide +kernel
theorem dX3_run_11 : decode cX3_run 11 = .ok (.iconst (-1), 1) := by decide +kernel
theorem dX3_run_12 : decode cX3_run 12 = .ok (.ireturn, 1) := by decide +kernel
theorem dX3_run_13 : decode cX3_run 13 = .ok (.iconst 0, 1) := by decide +kernel
theorem dX3_run_14 : decode cX3_run 14 = .ok (.istore_n 3, 1) := by decide +kernel
theorem dX3_run_15 : decode cX3_run 15 = .ok (.iload_n 2, 1) := by decide +kernel
theorem dX3_run_16 : decode cX3_run 16 = .ok (.istore 4, 2) := by decide +kernel
theorem dX3_run_18 : decode cX3_run 18 = .ok (.iconst 0, 1) := by decide +kernel
theorem dX3_run_19 : decode cX3_run 19 = .ok (.istore 5, 2) := by decide +kernel
theorem dX3_run_21 : decode cX3_run 21 = .ok (.iload 5, 2) := by decide +kernel
theorem dX3_run_23 : decode cX3_run 23 = .ok (.iload_n 1, 1) := by decide +kernel
theorem dX3_run_24 : decode cX3_run 24 = .ok (.if_icmp .ge 90, 3) := by decide +kernel
theorem dX3_run_27 : decode cX3_run 27 = .ok (.iload 4, 2) := by decide +kernel
theorem dX3_run_29 : decode cX3_run 29 = .ok (.ldc 174, 2) := by decide +kernel
theorem dX3_run_31 : decode cX3_run 31 = .ok (.imul, 1) := by decide +kernel
theorem dX3_run_32 : decode cX3_run 32 = .ok (.sipush 12345, 3) := by decide +kernel
theorem dX3_run_35 : decode cX3_run 35 = .ok (.iadd, 1) := by decide +kernel
theorem dX3_run_36 : decode cX3_run 36 = .ok (.istore 4, 2) := by decide +kernel
theorem dX3_run_38 : decode cX3_run 38 = .ok (.iload 4, 2) := by decide +kernel
theorem dX3_run_40 : decode cX3_run 40 = .ok (.bipush 16, 2) := by decide +kernel
theorem dX3_run_42 : decode cX3_run 42 = .ok (.iushr, 1) := by decide +kernel
theorem dX3_run_43 : decode cX3_run 43 = .ok (.aload_n 0, 1) := by decide +kernel
theorem dX3_run_44 : decode cX3_run 44 = .ok (.getfield 18, 3) := by decide +kernel
theorem dX3_run_47 : decode cX3_run 47 = .ok (.aload_n 0, 1) := by decide +kernel
theorem dX3_run_48 : decode cX3_run 48 = .ok (.getfield 18, 3) := by decide +kernel
theorem dX3_run_51 : decode cX3_run 51 = .ok (.imul, 1) := by decide +kernel
theorem dX3_run_52 : decode cX3_run 52 = .ok (.irem, 1) := by decide +kernel
theorem dX3_run_53 : decode cX3_run 53 = .ok (.istore 6, 2) := by decide +kernel
theorem dX3_run_55 : decode cX3_run 55 = .ok (.iload 6, 2) := by decide +kernel
theorem dX3_run_57 : decode cX3_run 57 = .ok (.aload_n 0, 1) := by decide +kernel
theorem dX3_run_58 : decode cX3_run 58 = .ok (.getfield 18, 3) := by decide +kernel
theorem dX3_run_61 : decode cX3_run 61 = .ok (.idiv, 1) := by decide +kernel
theorem dX3_run_62 : decode cX3_run 62 = .ok (.istore 7, 2) := by decide +kernel
theorem dX3_run_64 : decode cX3_run 64 = .ok (.iload 6, 2) := by decide +kernel
theorem dX3_run_66 : decode cX3_run 66 = .ok (.aload_n 0, 1) := by decide +kernel
theorem dX3_run_67 : decode cX3_run 67 = .ok (.getfield 18, 3) := by decide +kernel
theorem dX3_run_70 : decode cX3_run 70 = .ok (.irem, 1) := by decide +kernel
theorem dX3_run_71 : decode cX3_run 71 = .ok (.istore 8, 2) := by decide +kernel
theorem dX3_run_73 : decode cX3_run 73 = .ok (.iload 7, 2) := by decide +kernel
theorem dX3_run_75 : decode cX3_run 75 = .ok (.iload 8, 2) := by decide +kernel
theorem dX3_run_77 : decode cX3_run 77 = .ok (.if_icmp .ne 12, 3) := by decide +kernel
theorem dX3_run_80 : decode cX3_run 80 = .ok (.aload_n 0, 1) := by decide +kernel
theorem dX3_run_81 : decode cX3_run 81 = .ok (.iload 7, 2) := by decide +kernel
theorem dX3_run_83 : decode cX3_run 83 = .ok (.invokevirtual 175, 3) := by decide +kernel
theorem dX3_run_86 : decode cX3_run 86 = .ok (.goto 11, 3) := by decide +kernel
theorem dX3_run_89 : decode cX3_run 89 = .ok (.aload_n 0, 1) := by decide +kernel
theorem dX3_run_90 : decode cX3_run 90 = .ok (.iload 7, 2) := by decide +kernel
theorem dX3_run_92 : decode cX3_run 92 = .ok (.iload 8, 2) := by decide +kernel
theorem dX3_run_94 : decode cX3_run 94 = .ok (.invokevirtual 178, 3) := by decide +kernel
theorem dX3_run_97 : decode cX3_run 97 = .ok (.istore 9, 2) := by decide +kernel
theorem dX3_run_99 : decode cX3_run 99 = .ok (.iload 9, 2) := by decide +kernel
theorem dX3_run_101 : decode cX3_run 101 = .ok (.iconst (-1), 1) := by decide +kernel
theorem dX3_run_102 : decode cX3_run 102 = .ok (.if_icmp .eq 6, 3) := by decide +kernel
theorem dX3_run_105 : decode cX3_run 105 = .ok (.iinc 3 1, 3) := by decide +kernel
theorem dX3_run_108 : decode cX3_run 108 = .ok (.iinc 5 1, 3) := by decide +kernel
theorem dX3_run_111 : decode cX3_run 111 = .ok (.goto (-90), 3) := by decide +kernel
theorem dX3_run_114 : decode cX3_run 114 = .ok (.iload_n 3, 1) := by decide +kernel
theorem dX3_run_115 : decode cX3_run 115 = .ok (.ireturn, 1) := by decide +kernel
theorem dX3_told_0 : decode cX3_told 0 = .ok (.aload_n 0, 1) := by decide +kernel
theorem dX3_told_1 : decode cX3_told 1 = .ok (.iload_n 1, 1) := by decide +kernel
theorem dX3_told_2 : decode cX3_told 2 = .ok (.invokevirtual 54, 3) := by decide +kernel
theorem dX3_told_5 : decode cX3_told 5 = .ok (.astore_n 3, 1) := by decide +kernel
theorem dX3_told_6 : decode cX3_told 6 = .ok (.aload_n 3, 1) := by decide +kernel
theorem dX3_told_7 : decode cX3_told 7 = .ok (.ifnonnull 5, 3) := by decide +kernel
theorem dX3_told_10 : decode cX3_told 10 = .ok (.iconst (-1), 1) := by decide +kernel
theorem dX3_told_11 : decode cX3_told 11 = .ok (.ireturn, 1) := by decide +kernel
theorem dX3_told_12 : decode cX3_told 12 = .ok (.iload_n 2, 1) := by decide +kernel
theorem dX3_told_13 : decode cX3_told 13 = .ok (.tableswitch 158 0 11 #[63, 71, 79, 89, 94, 99, 104, 112, 132, 140, 148, 153], 63) := by decide +kernel
theorem dX3_told_76 : decode cX3_told 76 = .ok (.aload_n 3, 1) := by decide +kernel
theorem dX3_told_77 : decode cX3_told 77 = .ok (.getfield 49, 3) := by decide +kernel
theorem dX3_told_80 : decode cX3_told 80 = .ok (.invokestatic 181, 3) := by decide +kernel
theorem dX3_told_83 : decode cX3_told 83 = .ok (.ireturn, 1) := by decide +kernel
theorem dX3_told_84 : decode cX3_told 84 = .ok (.aload_n 3, 1) := by decide +kernel
theorem dX3_told_85 : decode cX3_told 85 = .ok (.invokevirtual 104, 3) := by decide +kernel
theorem dX3_told_88 : decode cX3_told 88 = .ok (.invokestatic 181, 3) := by decide +kernel
theorem dX3_told_91 : decode cX3_told 91 = .ok (.ireturn, 1) := by decide +kernel
theorem dX3_told_92 : decode cX3_told 92 = .ok (.aload_n 0, 1) := by decide +kernel
theorem dX3_told_93 : decode cX3_told 93 = .ok (.iload_n 1, 1) := by decide +kernel
theorem dX3_told_94 : decode cX3_told 94 = .ok (.aload_n 3, 1) := by decide +kernel
theorem dX3_told_95 : decode cX3_told 95 = .ok (.invokevirtual 185, 3) := by decide +kernel
theorem dX3_told_98 : decode cX3_told 98 = .ok (.invokestatic 181, 3) := by decide +kernel
theorem dX3_told_101 : decode cX3_told 101 = .ok (.ireturn, 1) := by decide +kernel
theorem dX3_told_102 : decode cX3_told 102 = .ok (.aload_n 3, 1) := by decide +kernel
theorem dX3_told_103 : decode cX3_told 103 = .ok (.getfield 189, 3) := by decide +kernel
theorem dX3_told_106 : decode cX3_told 106 = .ok (.ireturn, 1) := by decide +kernel
theorem dX3_told_107 : decode cX3_told 107 = .ok (.aload_n 3, 1) := by decide +kernel
theorem dX3_told_108 : decode cX3_told 108 = .ok (.getfield 71, 3) := by decide +kernel
theorem dX3_told_111 : decode cX3_told 111 = .ok (.ireturn, 1) := by decide +kernel
theorem dX3_told_112 : decode cX3_told 112 = .ok (.aload_n 3, 1) := by decide +kernel
theorem dX3_told_113 : decode cX3_told 113 = .ok (.getfield 78, 3) := by decide +kernel
theorem dX3_told_116 : decode cX3_told 116 = .ok (.ireturn, 1) := by decide +kernel
theorem dX3_told_117 : decode cX3_told 117 = .ok (.aload_n 3, 1) := by decide +kernel
theorem dX3_told_118 : decode cX3_told 118 = .ok (.getfield 150, 3) := by decide +kernel
theorem dX3_told_121 : decode cX3_told 121 = .ok (.invokestatic 181, 3) := by decide +kernel
theorem dX3_told_124 : decode cX3_told 124 = .ok (.ireturn, 1) := by decide +kernel
theorem dX3_told_125 : decode cX3_told 125 = .ok (.aload_n 0, 1) := by decide +kernel
theorem dX3_told_126 : decode cX3_told 126 = .ok (.getfield 41, 3) := by decide +kernel
theorem dX3_told_129 : decode cX3_told 129 = .ok (.getfield 126, 3) := by decide +kernel
theorem dX3_told_132 : decode cX3_told 132 = .ok (.iload_n 1, 1) := by decide +kernel
theorem dX3_told_133 : decode cX3_told 133 = .ok (.if_icmp .ne 7, 3) := by decide +kernel
theorem dX3_told_136 : decode cX3_told 136 = .ok (.iconst 1, 1) := by decide +kernel
theorem dX3_told_137 : decode cX3_told 137 = .ok (.goto 4, 3) := by decide +kernel
theorem dX3_told_140 : decode cX3_told 140 = .ok (.iconst 0, 1) := by decide +kernel
theorem dX3_told_141 : decode cX3_told 141 = .ok (.invokestatic 181, 3) := by decide +kernel
theorem dX3_told_144 : decode cX3_told 144 = .ok (.ireturn, 1) := by decide +kernel
theorem dX3_told_145 : decode cX3_told 145 = .ok (.aload_n 3, 1) := by decide +kernel
theorem dX3_told_146 : decode cX3_told 146 = .ok (.getfield 92, 3) := by decide +kernel
theorem dX3_told_149 : decode cX3_told 149 = .ok (.invokestatic 99, 3) := by decide +kernel
theorem dX3_told_152 : decode cX3_told 152 = .ok (.ireturn, 1) := by decide +kernel
theorem dX3_told_153 : decode cX3_told 153 = .ok (.aload_n 3, 1) := by decide +kernel
theorem dX3_told_154 : decode cX3_told 154 = .ok (.getfield 107, 3) := by decide +kernel
theorem dX3_told_157 : decode cX3_told 157 = .ok (.invokestatic 99, 3) := by decide +kernel
theorem dX3_told_160 : decode cX3_told 160 = .ok (.ireturn, 1) := by decide +kernel
theorem dX3_told_161 : decode cX3_told 161 = .ok (.aload_n 3, 1) := by decide +kernel
theorem dX3_told_162 : decode cX3_told 162 = .ok (.getfield 192, 3) := by decide +kernel
theorem dX3_told_165 : decode cX3_told 165 = .ok (.ireturn, 1) := by decide +kernel
theorem dX3_told_166 : decode cX3_told 166 = .ok (.aload_n 3, 1) := by decide +kernel
theorem dX3_told_167 : decode cX3_told 167 = .ok (.getfield 120, 3) := by decide +kernel
theorem dX3_told_170 : decode cX3_told 170 = .ok (.ireturn, 1) := by decide +kernel
theorem dX3_told_171 : decode cX3_told 171 = .ok (.iconst (-1), 1) := by decide +kernel
theorem dX3_told_172 : decode cX3_told 172 = .ok (.ireturn, 1) := by decide +kernel
theorem dX3_waits_0 : decode cX3_waits 0 = .ok (.aload_n 0, 1) := by decide +kernel
theorem dX3_waits_1 : decode cX3_waits 1 = .ok (.iload_n 1, 1) := by decide +kernel
theorem dX3_waits_2 : decode cX3_waits 2 = .ok (.invokevirtual 54, 3) := by decide +kernel
theorem dX3_waits_5 : decode cX3_waits 5 = .ok (.astore_n 3, 1) := by decide +kernel
theorem dX3_waits_6 : decode cX3_waits 6 = .ok (.aload_n 3, 1) := by decide +kernel
theorem dX3_waits_7 : decode cX3_waits 7 = .ok (.ifnull 26, 3) := by decide +kernel
theorem dX3_waits_10 : decode cX3_waits 10 = .ok (.aload_n 0, 1) := by decide +kernel
theorem dX3_waits_11 : decode cX3_waits 11 = .ok (.iload_n 2, 1) := by decide +kernel
theorem dX3_waits_12 : decode cX3_waits 12 = .ok (.invokevirtual 54, 3) := by decide +kernel
theorem dX3_waits_15 : decode cX3_waits 15 = .ok (.ifnull 18, 3) := by decide +kernel
theorem dX3_waits_18 : decode cX3_waits 18 = .ok (.aload_n 3, 1) := by decide +kernel
theorem dX3_waits_19 : decode cX3_waits 19 = .ok (.getfield 92, 3) := by decide +kernel
theorem dX3_waits_22 : decode cX3_waits 22 = .ok (.iload_n 2, 1) := by decide +kernel
theorem dX3_waits_23 : decode cX3_waits 23 = .ok (.invokestatic 110, 3) := by decide +kernel
theorem dX3_waits_26 : decode cX3_waits 26 = .ok (.ifCond .eq 7, 3) := by decide +kernel
theorem dX3_waits_29 : decode cX3_waits 29 = .ok (.iconst 1, 1) := by decide +kernel
theorem dX3_waits_30 : decode cX3_waits 30 = .ok (.goto 4, 3) := by decide +kernel
theorem dX3_waits_33 : decode cX3_waits 33 = .ok (.iconst 0, 1) := by decide +kernel
theorem dX3_waits_34 : decode cX3_waits 34 = .ok (.ireturn, 1) := by decide +kernel
theorem dX3_message_0 : decode cX3_message 0 = .ok (.aload_n 0, 1) := by decide +kernel
theorem dX3_message_1 : decode cX3_message 1 = .ok (.iload_n 1, 1) := by decide +kernel
theorem dX3_message_2 : decode cX3_message 2 = .ok (.iload_n 2, 1) := by decide +kernel
theorem dX3_message_3 : decode cX3_message 3 = .ok (.invokevirtual 58, 3) := by decide +kernel
theorem dX3_message_6 : decode cX3_message 6 = .ok (.astore 5, 2) := by decide +kernel
theorem dX3_message_8 : decode cX3_message 8 = .ok (.aload 5, 2) := by decide +kernel
theorem dX3_message_10 : decode cX3_message 10 = .ok (.ifnull 16, 3) := by decide +kernel
theorem dX3_message_13 : decode cX3_message 13 = .ok (.iload_n 3, 1) := by decide +kernel
theorem dX3_message_14 : decode cX3_message 14 = .ok (.ifCond .lt 12, 3) := by decide +kernel
theorem dX3_message_17 : decode cX3_message 17 = .ok (.iload_n 3, 1) := by decide +kernel
theorem dX3_message_18 : decode cX3_message 18 = .ok (.aload 5, 2) := by decide +kernel
theorem dX3_message_20 : decode cX3_message 20 = .ok (.getfield 153, 3) := by decide +kernel
theorem dX3_message_23 : decode cX3_message 23 = .ok (.if_icmp .lt 5, 3) := by decide +kernel
theorem dX3_message_26 : decode cX3_message 26 = .ok (.iconst (-1), 1) := by decide +kernel
theorem dX3_message_27 : decode cX3_message 27 = .ok (.ireturn, 1) := by decide +kernel
theorem dX3_message_28 : decode cX3_message 28 = .ok (.aload 5, 2) := by decide +kernel
theorem dX3_message_30 : decode cX3_message 30 = .ok (.iload_n 3, 1) := by decide +kernel
theorem dX3_message_31 : decode cX3_message 31 = .ok (.invokevirtual 195, 3) := by decide +kernel
theorem dX3_message_34 : decode cX3_message 34 = .ok (.istore 6, 2) := by decide +kernel
theorem dX3_message_36 : decode cX3_message 36 = .ok (.iload 4, 2) := by decide +kernel
theorem dX3_message_38 : decode cX3_message 38 = .ok (.ifCond .ne 9, 3) := by decide +kernel
theorem dX3_message_41 : decode cX3_message 41 = .ok (.iload 6, 2) := by decide +kernel
theorem dX3_message_43 : decode cX3_message 43 = .ok (.invokestatic 163, 3) := by decide +kernel
theorem dX3_message_46 : decode cX3_message 46 = .ok (.ireturn, 1) := by decide +kernel
theorem dX3_message_47 : decode cX3_message 47 = .ok (.iload 6, 2) := by decide +kernel
theorem dX3_message_49 : decode cX3_message 49 = .ok (.invokestatic 163, 3) := by decide +kernel
theorem dX3_message_52 : decode cX3_message 52 = .ok (.bipush 6, 2) := by decide +kernel
theorem dX3_message_54 : decode cX3_message 54 = .ok (.if_icmp .eq 5, 3) := by decide +kernel
theorem dX3_message_57 : decode cX3_message 57 = .ok (.iconst (-1), 1) := by decide +kernel
theorem dX3_message_58 : decode cX3_message 58 = .ok (.ireturn, 1) := by decide +kernel
theorem dX3_message_59 : decode cX3_message 59 = .ok (.iload 4, 2) := by decide +kernel
theorem dX3_message_61 : decode cX3_message 61 = .ok (.iconst 1, 1) := by decide +kernel
theorem dX3_message_62 : decode cX3_message 62 = .ok (.if_icmp .ne 9, 3) := by decide +kernel
theorem dX3_message_65 : decode cX3_message 65 = .ok (.iload 6, 2) := by decide +kernel
theorem dX3_message_67 : decode cX3_message 67 = .ok (.invokestatic 198, 3) := by decide +kernel
theorem dX3_message_70 : decode cX3_message 70 = .ok (.ireturn, 1) := by decide +kernel
theorem dX3_message_71 : decode cX3_message 71 = .ok (.iload 4, 2) := by decide +kernel
theorem dX3_message_73 : decode cX3_message 73 = .ok (.iconst 2, 1) := by decide +kernel
theorem dX3_message_74 : decode cX3_message 74 = .ok (.if_icmp .ne 11, 3) := by decide +kernel
theorem dX3_message_77 : decode cX3_message 77 = .ok (.iload 6, 2) := by decide +kernel
theorem dX3_message_79 : decode cX3_message 79 = .ok (.invokestatic 201, 3) := by decide +kernel
theorem dX3_message_82 : decode cX3_message 82 = .ok (.goto 4, 3) := by decide +kernel
theorem dX3_message_85 : decode cX3_message 85 = .ok (.iconst (-1), 1) := by decide +kernel
theorem dX3_message_86 : decode cX3_message 86 = .ok (.ireturn, 1) := by decide +kernel
theorem dX3_quiet_0 : decode cX3_quiet 0 = .ok (.iconst 0, 1) := by decide +kernel
theorem dX3_quiet_1 : decode cX3_quiet 1 = .ok (.istore_n 1, 1) := by decide +kernel
theorem dX3_quiet_2 : decode cX3_quiet 2 = .ok (.iload_n 1, 1) := by decide +kernel
theorem dX3_quiet_3 : decode cX3_quiet 3 = .ok (.aload_n 0, 1) := by decide +kernel
theorem dX3_quiet_4 : decode cX3_quiet 4 = .ok (.getfield 18, 3) := by decide +kernel
theorem dX3_quiet_7 : decode cX3_quiet 7 = .ok (.if_icmp .ge 23, 3) := by decide +kernel
theorem dX3_quiet_10 : decode cX3_quiet 10 = .ok (.aload_n 0, 1) := by decide +kernel
theorem dX3_quiet_11 : decode cX3_quiet 11 = .ok (.getfield 26, 3) := by decide +kernel
theorem dX3_quiet_14 : decode cX3_quiet 14 = .ok (.iload_n 1, 1) := by decide +kernel
theorem dX3_quiet_15 : decode cX3_quiet 15 = .ok (.aaload, 1) := by decide +kernel
theorem dX3_quiet_16 : decode cX3_quiet 16 = .ok (.getfield 49, 3) := by decide +kernel
theorem dX3_quiet_19 : decode cX3_quiet 19 = .ok (.ifCond .eq 5, 3) := by decide +kernel
theorem dX3_quiet_22 : decode cX3_quiet 22 = .ok (.iconst 0, 1) := by decide +kernel
theorem dX3_quiet_23 : decode cX3_quiet 23 = .ok (.ireturn, 1) := by decide +kernel
theorem dX3_quiet_24 : decode cX3_quiet 24 = .ok (.iinc 1 1, 3) := by decide +kernel
theorem dX3_quiet_27 : decode cX3_quiet 27 = .ok (.goto (-25), 3) := by decide +kernel
theorem dX3_quiet_30 : decode cX3_quiet 30 = .ok (.aload_n 0, 1) := by decide +kernel
theorem dX3_quiet_31 : decode cX3_quiet 31 = .ok (.invokevirtual 204, 3) := by decide +kernel
theorem dX3_quiet_34 : decode cX3_quiet 34 = .ok (.ifCond .ne 7, 3) := by decide +kernel
theorem dX3_quiet_37 : decode cX3_quiet 37 = .ok (.iconst 1, 1) := by decide +kernel
theorem dX3_quiet_38 : decode cX3_quiet 38 = .ok (.goto 4, 3) := by decide +kernel
theorem dX3_quiet_41 : decode cX3_quiet 41 = .ok (.iconst 0, 1) := by decide +kernel
theorem dX3_quiet_42 : decode cX3_quiet 42 = .ok (.ireturn, 1) := by decide +kernel
theorem dX3_wrong_0 : decode cX3_wrong 0 = .ok (.aload_n 0, 1) := by decide +kernel
theorem dX3_wrong_1 : decode cX3_wrong 1 = .ok (.getfield 207, 3) := by decide +kernel
theorem dX3_wrong_4 : decode cX3_wrong 4 = .ok (.ireturn, 1) := by decide +kernel
theorem dX3_falsely_0 : decode cX3_falsely 0 = .ok (.aload_n 0, 1) := by decide +kernel
theorem dX3_falsely_1 : decode cX3_falsely 1 = .ok (.getfield 210, 3) := by decide +kernel
theorem dX3_falsely_4 : decode cX3_falsely 4 = .ok (.ireturn, 1) := by decide +kernel
theorem dX3_count_0 : decode cX3_count 0 = .ok (.iload_n 1, 1) := by decide +kernel
theorem dX3_count_1 : decode cX3_count 1 = .ok (.tableswitch 123 0 9 #[55, 60, 68, 76, 84, 92, 103, 108, 113, 118], 55) := by decide +kernel
theorem dX3_count_56 : decode cX3_count 56 = .ok (.aload_n 0, 1) := by decide +kernel
theorem dX3_count_57 : decode cX3_count 57 = .ok (.getfield 18, 3) := by decide +kernel
theorem dX3_count_60 : decode cX3_count 60 = .ok (.ireturn, 1) := by decide +kernel
theorem dX3_count_61 : decode cX3_count 61 = .ok (.aload_n 0, 1) := by decide +kernel
theorem dX3_count_62 : decode cX3_count 62 = .ok (.getfield 213, 3) := by decide +kernel
theorem dX3_count_65 : decode cX3_count 65 = .ok (.invokestatic 181, 3) := by decide +kernel
theorem dX3_count_68 : decode cX3_count 68 = .ok (.ireturn, 1) := by decide +kernel
theorem dX3_count_69 : decode cX3_count 69 = .ok (.aload_n 0, 1) := by decide +kernel
theorem dX3_count_70 : decode cX3_count 70 = .ok (.getfield 129, 3) := by decide +kernel
theorem dX3_count_73 : decode cX3_count 73 = .ok (.invokestatic 181, 3) := by decide +kernel
theorem dX3_count_76 : decode cX3_count 76 = .ok (.ireturn, 1) := by decide +kernel
theorem dX3_count_77 : decode cX3_count 77 = .ok (.aload_n 0, 1) := by decide +kernel
theorem dX3_count_78 : decode cX3_count 78 = .ok (.getfield 41, 3) := by decide +kernel
theorem dX3_count_81 : decode cX3_count 81 = .ok (.getfield 216, 3) := by decide +kernel
theorem dX3_count_84 : decode cX3_count 84 = .ok (.ireturn, 1) := by decide +kernel
theorem dX3_count_85 : decode cX3_count 85 = .ok (.aload_n 0, 1) := by decide +kernel
theorem dX3_count_86 : decode cX3_count 86 = .ok (.getfield 41, 3) := by decide +kernel
theorem dX3_count_89 : decode cX3_count 89 = .ok (.getfield 219, 3) := by decide +kernel
theorem dX3_count_92 : decode cX3_count 92 = .ok (.ireturn, 1) := by decide +kernel
theorem dX3_count_93 : decode cX3_count 93 = .ok (.aload_n 0, 1) := by decide +kernel
theorem dX3_count_94 : decode cX3_count 94 = .ok (.getfield 41, 3) := by decide +kernel
theorem dX3_count_97 : decode cX3_count 97 = .ok (.getfield 222, 3) := by decide +kernel
theorem dX3_count_100 : decode cX3_count 100 = .ok (.invokestatic 181, 3) := by decide +kernel
theorem dX3_count_103 : decode cX3_count 103 = .ok (.ireturn, 1) := by decide +kernel
theorem dX3_count_104 : decode cX3_count 104 = .ok (.aload_n 0, 1) := by decide +kernel
theorem dX3_count_105 : decode cX3_count 105 = .ok (.invokevirtual 223, 3) := by decide +kernel
theorem dX3_count_108 : decode cX3_count 108 = .ok (.ireturn, 1) := by decide +kernel
theorem dX3_count_109 : decode cX3_count 109 = .ok (.aload_n 0, 1) := by decide +kernel
theorem dX3_count_110 : decode cX3_count 110 = .ok (.invokevirtual 204, 3) := by decide +kernel
theorem dX3_count_113 : decode cX3_count 113 = .ok (.ireturn, 1) := by decide +kernel
theorem dX3_count_114 : decode cX3_count 114 = .ok (.aload_n 0, 1) := by decide +kernel
theorem dX3_count_115 : decode cX3_count 115 = .ok (.getfield 160, 3) := by decide +kernel
theorem dX3_count_118 : decode cX3_count 118 = .ok (.ireturn, 1) := by decide +kernel
theorem dX3_count_119 : decode cX3_count 119 = .ok (.aload_n 0, 1) := by decide +kernel
theorem dX3_count_120 : decode cX3_count 120 = .ok (.getfield 226, 3) := by decide +kernel
theorem dX3_count_123 : decode cX3_count 123 = .ok (.ireturn, 1) := by decide +kernel
theorem dX3_count_124 : decode cX3_count 124 = .ok (.iconst (-1), 1) := by decide +kernel
theorem dX3_count_125 : decode cX3_count 125 = .ok (.ireturn, 1) := by decide +kernel
theorem dX3_newWorkers_0 : decode cX3_newWorkers 0 = .ok (.iload_n 0, 1) := by decide +kernel
theorem dX3_newWorkers_1 : decode cX3_newWorkers 1 = .ok (.anewarray 50, 3) := by decide +kernel
theorem dX3_newWorkers_4 : decode cX3_newWorkers 4 = .ok (.astore_n 1, 1) := by decide +kernel
theorem dX3_newWorkers_5 : decode cX3_newWorkers 5 = .ok (.iconst 0, 1) := by decide +kernel
theorem dX3_newWorkers_6 : decode cX3_newWorkers 6 = .ok (.istore_n 2, 1) := by decide +kernel
theorem dX3_newWorkers_7 : decode cX3_newWorkers 7 = .ok (.iload_n 2, 1) := by decide +kernel
theorem dX3_newWorkers_8 : decode cX3_newWorkers 8 = .ok (.iload_n 0, 1) := by decide +kernel
theorem dX3_newWorkers_9 : decode cX3_newWorkers 9 = .ok (.if_icmp .ge 20, 3) := by decide +kernel
theorem dX3_newWorkers_12 : decode cX3_newWorkers 12 = .ok (.aload_n 1, 1) := by decide +kernel
theorem dX3_newWorkers_13 : decode cX3_newWorkers 13 = .ok (.iload_n 2, 1) := by decide +kernel
theorem dX3_newWorkers_14 : decode cX3_newWorkers 14 = .ok (.new 50, 3) := by decide +kernel
theorem dX3_newWorkers_17 : decode cX3_newWorkers 17 = .ok (.dup, 1) := by decide +kernel
theorem dX3_newWorkers_18 : decode cX3_newWorkers 18 = .ok (.iload_n 0, 1) := by decide +kernel
theorem dX3_newWorkers_19 : decode cX3_newWorkers 19 = .ok (.invokespecial 227, 3) := by decide +kernel
theorem dX3_newWorkers_22 : decode cX3_newWorkers 22 = .ok (.aastore, 1) := by decide +kernel
theorem dX3_newWorkers_23 : decode cX3_newWorkers 23 = .ok (.iinc 2 1, 3) := by decide +kernel
theorem dX3_newWorkers_26 : decode cX3_newWorkers 26 = .ok (.goto (-19), 3) := by decide +kernel
theorem dX3_newWorkers_29 : decode cX3_newWorkers 29 = .ok (.aload_n 1, 1) := by decide +kernel
theorem dX3_newWorkers_30 : decode cX3_newWorkers 30 = .ok (.areturn, 1) := by decide +kernel
theorem dX3_newRows_0 : decode cX3_newRows 0 = .ok (.iload_n 0, 1) := by decide +kernel
theorem dX3_newRows_1 : decode cX3_newRows 1 = .ok (.iload_n 0, 1) := by decide +kernel
theorem dX3_newRows_2 : decode cX3_newRows 2 = .ok (.imul, 1) := by decide +kernel
theorem dX3_newRows_3 : decode cX3_newRows 3 = .ok (.anewarray 67, 3) := by decide +kernel
theorem dX3_newRows_6 : decode cX3_newRows 6 = .ok (.astore_n 1, 1) := by decide +kernel
theorem dX3_newRows_7 : decode cX3_newRows 7 = .ok (.iconst 0, 1) := by decide +kernel
theorem dX3_newRows_8 : decode cX3_newRows 8 = .ok (.istore_n 2, 1) := by decide +kernel
theorem dX3_newRows_9 : decode cX3_newRows 9 = .ok (.iload_n 2, 1) := by decide +kernel
theorem dX3_newRows_10 : decode cX3_newRows 10 = .ok (.aload_n 1, 1) := by decide +kernel
theorem dX3_newRows_11 : decode cX3_newRows 11 = .ok (.arraylength, 1) := by decide +kernel
theorem dX3_newRows_12 : decode cX3_newRows 12 = .ok (.if_icmp .ge 42, 3) := by decide +kernel
theorem dX3_newRows_15 : decode cX3_newRows 15 = .ok (.iload_n 2, 1) := by decide +kernel
theorem dX3_newRows_16 : decode cX3_newRows 16 = .ok (.iload_n 0, 1) := by decide +kernel
theorem dX3_newRows_17 : decode cX3_newRows 17 = .ok (.idiv, 1) := by decide +kernel
theorem dX3_newRows_18 : decode cX3_newRows 18 = .ok (.iload_n 2, 1) := by decide +kernel
theorem dX3_newRows_19 : decode cX3_newRows 19 = .ok (.iload_n 0, 1) := by decide +kernel
theorem dX3_newRows_20 : decode cX3_newRows 20 = .ok (.irem, 1) := by decide +kernel
theorem dX3_newRows_21 : decode cX3_newRows 21 = .ok (.if_icmp .ne 7, 3) := by decide +kernel
theorem dX3_newRows_24 : decode cX3_newRows 24 = .ok (.iconst 1, 1) := by decide +kernel
theorem dX3_newRows_25 : decode cX3_newRows 25 = .ok (.goto 4, 3) := by decide +kernel
theorem dX3_newRows_28 : decode cX3_newRows 28 = .ok (.iconst 0, 1) := by decide +kernel
theorem dX3_newRows_29 : decode cX3_newRows 29 = .ok (.istore_n 3, 1) := by decide +kernel
theorem dX3_newRows_30 : decode cX3_newRows 30 = .ok (.aload_n 1, 1) := by decide +kernel
theorem dX3_newRows_31 : decode cX3_newRows 31 = .ok (.iload_n 2, 1) := by decide +kernel
theorem dX3_newRows_32 : decode cX3_newRows 32 = .ok (.iload_n 3, 1) := by decide +kernel
theorem dX3_newRows_33 : decode cX3_newRows 33 = .ok (.ifCond .eq 7, 3) := by decide +kernel
theorem dX3_newRows_36 : decode cX3_newRows 36 = .ok (.aconst_null, 1) := by decide +kernel
theorem dX3_newRows_37 : decode cX3_newRows 37 = .ok (.goto 10, 3) := by decide +kernel
theorem dX3_newRows_40 : decode cX3_newRows 40 = .ok (.new 67, 3) := by decide +kernel
theorem dX3_newRows_43 : decode cX3_newRows 43 = .ok (.dup, 1) := by decide +kernel
theorem dX3_newRows_44 : decode cX3_newRows 44 = .ok (.invokespecial 229, 3) := by decide +kernel
theorem dX3_newRows_47 : decode cX3_newRows 47 = .ok (.aastore, 1) := by decide +kernel
theorem dX3_newRows_48 : decode cX3_newRows 48 = .ok (.iinc 2 1, 3) := by decide +kernel
theorem dX3_newRows_51 : decode cX3_newRows 51 = .ok (.goto (-42), 3) := by decide +kernel
theorem dX3_newRows_54 : decode cX3_newRows 54 = .ok (.aload_n 1, 1) := by decide +kernel
theorem dX3_newRows_55 : decode cX3_newRows 55 = .ok (.areturn, 1) := by decide +kernel
theorem dX3_oneIf_0 : decode cX3_oneIf 0 = .ok (.iload_n 0, 1) := by decide +kernel
theorem dX3_oneIf_1 : decode cX3_oneIf 1 = .ok (.ifCond .eq 7, 3) := by decide +kernel
theorem dX3_oneIf_4 : decode cX3_oneIf 4 = .ok (.iconst 1, 1) := by decide +kernel
theorem dX3_oneIf_5 : decode cX3_oneIf 5 = .ok (.goto 4, 3) := by decide +kernel
theorem dX3_oneIf_8 : decode cX3_oneIf 8 = .ok (.iconst 0, 1) := by decide +kernel
theorem dX3_oneIf_9 : decode cX3_oneIf 9 = .ok (.ireturn, 1) := by decide +kernel
theorem dX3_bitOf_0 : decode cX3_bitOf 0 = .ok (.iconst 1, 1) := by decide +kernel
theorem dX3_bitOf_1 : decode cX3_bitOf 1 = .ok (.iload_n 0, 1) := by decide +kernel
theorem dX3_bitOf_2 : decode cX3_bitOf 2 = .ok (.ishl, 1) := by decide +kernel
theorem dX3_bitOf_3 : decode cX3_bitOf 3 = .ok (.ireturn, 1) := by decide +kernel
theorem dX3_allOf_0 : decode cX3_allOf 0 = .ok (.iconst 1, 1) := by decide +kernel
theorem dX3_allOf_1 : decode cX3_allOf 1 = .ok (.iload_n 0, 1) := by decide +kernel
theorem dX3_allOf_2 : decode cX3_allOf 2 = .ok (.ishl, 1) := by decide +kernel
theorem dX3_allOf_3 : decode cX3_allOf 3 = .ok (.iconst 1, 1) := by decide +kernel
theorem dX3_allOf_4 : decode cX3_allOf 4 = .ok (.isub, 1) := by decide +kernel
theorem dX3_allOf_5 : decode cX3_allOf 5 = .ok (.ireturn, 1) := by decide +kernel
theorem dX3_holds_0 : decode cX3_holds 0 = .ok (.iload_n 0, 1) := by decide +kernel
theorem dX3_holds_1 : decode cX3_holds 1 = .ok (.iload_n 1, 1) := by decide +kernel
theorem dX3_holds_2 : decode cX3_holds 2 = .ok (.invokestatic 89, 3) := by decide +kernel
theorem dX3_holds_5 : decode cX3_holds 5 = .ok (.iand, 1) := by decide +kernel
theorem dX3_holds_6 : decode cX3_holds 6 = .ok (.ifCond .eq 7, 3) := by decide +kernel
theorem dX3_holds_9 : decode cX3_holds 9 = .ok (.iconst 1, 1) := by decide +kernel
theorem dX3_holds_10 : decode cX3_holds 10 = .ok (.goto 4, 3) := by decide +kernel
theorem dX3_holds_13 : decode cX3_holds 13 = .ok (.iconst 0, 1) := by decide +kernel
theorem dX3_holds_14 : decode cX3_holds 14 = .ok (.ireturn, 1) := by decide +kernel
theorem dX3_probeOf_0 : decode cX3_probeOf 0 = .ok (.iload_n 1, 1) := by decide +kernel
theorem dX3_probeOf_1 : decode cX3_probeOf 1 = .ok (.bipush 7, 2) := by decide +kernel
theorem dX3_probeOf_3 : decode cX3_probeOf 3 = .ok (.ishl, 1) := by decide +kernel
theorem dX3_probeOf_4 : decode cX3_probeOf 4 = .ok (.iload_n 0, 1) := by decide +kernel
theorem dX3_probeOf_5 : decode cX3_probeOf 5 = .ok (.iconst 3, 1) := by decide +kernel
theorem dX3_probeOf_6 : decode cX3_probeOf 6 = .ok (.ishl, 1) := by decide +kernel
theorem dX3_probeOf_7 : decode cX3_probeOf 7 = .ok (.ior, 1) := by decide +kernel
theorem dX3_probeOf_8 : decode cX3_probeOf 8 = .ok (.bipush 6, 2) := by decide +kernel
theorem dX3_probeOf_10 : decode cX3_probeOf 10 = .ok (.ior, 1) := by decide +kernel
theorem dX3_probeOf_11 : decode cX3_probeOf 11 = .ok (.ireturn, 1) := by decide +kernel
theorem dX3_kindOf_0 : decode cX3_kindOf 0 = .ok (.iload_n 0, 1) := by decide +kernel
theorem dX3_kindOf_1 : decode cX3_kindOf 1 = .ok (.bipush 7, 2) := by decide +kernel
theorem dX3_kindOf_3 : decode cX3_kindOf 3 = .ok (.iand, 1) := by decide +kernel
theorem dX3_kindOf_4 : decode cX3_kindOf 4 = .ok (.ireturn, 1) := by decide +kernel
theorem dX3_beginnerOf_0 : decode cX3_beginnerOf 0 = .ok (.iload_n 0, 1) := by decide +kernel
theorem dX3_beginnerOf_1 : decode cX3_beginnerOf 1 = .ok (.iconst 3, 1) := by decide +kernel
theorem dX3_beginnerOf_2 : decode cX3_beginnerOf 2 = .ok (.ishr, 1) := by decide +kernel
theorem dX3_beginnerOf_3 : decode cX3_beginnerOf 3 = .ok (.bipush 15, 2) := by decide +kernel
theorem dX3_beginnerOf_5 : decode cX3_beginnerOf 5 = .ok (.iand, 1) := by decide +kernel
theorem dX3_beginnerOf_6 : decode cX3_beginnerOf 6 = .ok (.ireturn, 1) := by decide +kernel
theorem dX3_numberOf_0 : decode cX3_numberOf 0 = .ok (.iload_n 0, 1) := by decide +kernel
theorem dX3_numberOf_1 : decode cX3_numberOf 1 = .ok (.bipush 7, 2) := by decide +kernel
theorem dX3_numberOf_3 : decode cX3_numberOf 3 = .ok (.ishr, 1) := by decide +kernel
theorem dX3_numberOf_4 : decode cX3_numberOf 4 = .ok (.ireturn, 1) := by decide +kernel
theorem dX3_isProcess_0 : decode cX3_isProcess 0 = .ok (.iload_n 1, 1) := by decide +kernel
theorem dX3_isProcess_1 : decode cX3_isProcess 1 = .ok (.ifCond .lt 15, 3) := by decide +kernel
theorem dX3_isProcess_4 : decode cX3_isProcess 4 = .ok (.iload_n 1, 1) := by decide +kernel
theorem dX3_isProcess_5 : decode cX3_isProcess 5 = .ok (.aload_n 0, 1) := by decide +kernel
theorem dX3_isProcess_6 : decode cX3_isProcess 6 = .ok (.getfield 18, 3) := by decide +kernel
theorem dX3_isProcess_9 : decode cX3_isProcess 9 = .ok (.if_icmp .ge 7, 3) := by decide +kernel
theorem dX3_isProcess_12 : decode cX3_isProcess 12 = .ok (.iconst 1, 1) := by decide +kernel
theorem dX3_isProcess_13 : decode cX3_isProcess 13 = .ok (.goto 4, 3) := by decide +kernel
theorem dX3_isProcess_16 : decode cX3_isProcess 16 = .ok (.iconst 0, 1) := by decide +kernel
theorem dX3_isProcess_17 : decode cX3_isProcess 17 = .ok (.ireturn, 1) := by decide +kernel
theorem dX3_workerAt_0 : decode cX3_workerAt 0 = .ok (.aload_n 0, 1) := by decide +kernel
theorem dX3_workerAt_1 : decode cX3_workerAt 1 = .ok (.iload_n 1, 1) := by decide +kernel
theorem dX3_workerAt_2 : decode cX3_workerAt 2 = .ok (.invokevirtual 230, 3) := by decide +kernel
theorem dX3_workerAt_5 : decode cX3_workerAt 5 = .ok (.ifCond .eq 12, 3) := by decide +kernel
theorem dX3_workerAt_8 : decode cX3_workerAt 8 = .ok (.aload_n 0, 1) := by decide +kernel
theorem dX3_workerAt_9 : decode cX3_workerAt 9 = .ok (.getfield 26, 3) := by decide +kernel
theorem dX3_workerAt_12 : decode cX3_workerAt 12 = .ok (.iload_n 1, 1) := by decide +kernel
theorem dX3_workerAt_13 : decode cX3_workerAt 13 = .ok (.aaload, 1) := by decide +kernel
theorem dX3_workerAt_14 : decode cX3_workerAt 14 = .ok (.goto 4, 3) := by decide +kernel
theorem dX3_workerAt_17 : decode cX3_workerAt 17 = .ok (.aconst_null, 1) := by decide +kernel
theorem dX3_workerAt_18 : decode cX3_workerAt 18 = .ok (.areturn, 1) := by decide +kernel
theorem dX3_rowBetween_0 : decode cX3_rowBetween 0 = .ok (.aload_n 0, 1) := by decide +kernel
theorem dX3_rowBetween_1 : decode cX3_rowBetween 1 = .ok (.iload_n 1, 1) := by decide +kernel
theorem dX3_rowBetween_2 : decode cX3_rowBetween 2 = .ok (.invokevirtual 230, 3) := by decide +kernel
theorem dX3_rowBetween_5 : decode cX3_rowBetween 5 = .ok (.ifCond .eq 27, 3) := by decide +kernel
theorem dX3_rowBetween_8 : decode cX3_rowBetween 8 = .ok (.aload_n 0, 1) := by decide +kernel
theorem dX3_rowBetween_9 : decode cX3_rowBetween 9 = .ok (.iload_n 2, 1) := by decide +kernel
theorem dX3_rowBetween_10 : decode cX3_rowBetween 10 = .ok (.invokevirtual 230, 3) := by decide +kernel
theorem dX3_rowBetween_13 : decode cX3_rowBetween 13 = .ok (.ifCond .eq 19, 3) := by decide +kernel
theorem dX3_rowBetween_16 : decode cX3_rowBetween 16 = .ok (.aload_n 0, 1) := by decide +kernel
theorem dX3_rowBetween_17 : decode cX3_rowBetween 17 = .ok (.getfield 34, 3) := by decide +kernel
theorem dX3_rowBetween_20 : decode cX3_rowBetween 20 = .ok (.iload_n 1, 1) := by decide +kernel
theorem dX3_rowBetween_21 : decode cX3_rowBetween 21 = .ok (.aload_n 0, 1) := by decide +kernel
theorem dX3_rowBetween_22 : decode cX3_rowBetween 22 = .ok (.getfield 18, 3) := by decide +kernel
theorem dX3_rowBetween_25 : decode cX3_rowBetween 25 = .ok (.imul, 1) := by decide +kernel
theorem dX3_rowBetween_26 : decode cX3_rowBetween 26 = .ok (.iload_n 2, 1) := by decide +kernel
theorem dX3_rowBetween_27 : decode cX3_rowBetween 27 = .ok (.iadd, 1) := by decide +kernel
theorem dX3_rowBetween_28 : decode cX3_rowBetween 28 = .ok (.aaload, 1) := by decide +kernel
theorem dX3_rowBetween_29 : decode cX3_rowBetween 29 = .ok (.goto 4, 3) := by decide +kernel
theorem dX3_rowBetween_32 : decode cX3_rowBetween 32 = .ok (.aconst_null, 1) := by decide +kernel
theorem dX3_rowBetween_33 : decode cX3_rowBetween 33 = .ok (.areturn, 1) := by decide +kernel
theorem dX3_put_0 : decode cX3_put 0 = .ok (.aload_n 0, 1) := by decide +kernel
theorem dX3_put_1 : decode cX3_put 1 = .ok (.iload_n 1, 1) := by decide +kernel
theorem dX3_put_2 : decode cX3_put 2 = .ok (.iload_n 2, 1) := by decide +kernel
theorem dX3_put_3 : decode cX3_put 3 = .ok (.invokevirtual 58, 3) := by decide +kernel
theorem dX3_put_6 : decode cX3_put 6 = .ok (.astore 4, 2) := by decide +kernel
theorem dX3_put_8 : decode cX3_put 8 = .ok (.aload 4, 2) := by decide +kernel
theorem dX3_put_10 : decode cX3_put 10 = .ok (.ifnull 9, 3) := by decide +kernel
theorem dX3_put_13 : decode cX3_put 13 = .ok (.aload 4, 2) := by decide +kernel
theorem dX3_put_15 : decode cX3_put 15 = .ok (.iload_n 3, 1) := by decide +kernel
theorem dX3_put_16 : decode cX3_put 16 = .ok (.invokevirtual 74, 3) := by decide +kernel
theorem dX3_put_19 : decode cX3_put 19 = .ok (.return_, 1) := by decide +kernel
theorem dX3_putToEach_0 : decode cX3_putToEach 0 = .ok (.iconst 0, 1) := by decide +kernel
theorem dX3_putToEach_1 : decode cX3_putToEach 1 = .ok (.istore 4, 2) := by decide +kernel
theorem dX3_putToEach_3 : decode cX3_putToEach 3 = .ok (.iload 4, 2) := by decide +kernel
theorem dX3_putToEach_5 : decode cX3_putToEach 5 = .ok (.aload_n 0, 1) := by decide +kernel
theorem dX3_putToEach_6 : decode cX3_putToEach 6 = .ok (.getfield 18, 3) := by decide +kernel
theorem dX3_putToEach_9 : decode cX3_putToEach 9 = .ok (.if_icmp .ge 38, 3) := by decide +kernel
theorem dX3_putToEach_12 : decode cX3_putToEach 12 = .ok (.aload_n 0, 1) := by decide +kernel
theorem dX3_putToEach_13 : decode cX3_putToEach 13 = .ok (.iload_n 1, 1) := by decide +kernel
theorem dX3_putToEach_14 : decode cX3_putToEach 14 = .ok (.iload 4, 2) := by decide +kernel
theorem dX3_putToEach_16 : decode cX3_putToEach 16 = .ok (.invokevirtual 58, 3) := by decide +kernel
theorem dX3_putToEach_19 : decode cX3_putToEach 19 = .ok (.astore 5, 2) := by decide +kernel
theorem dX3_putToEach_21 : decode cX3_putToEach 21 = .ok (.aload 5, 2) := by decide +kernel
theorem dX3_putToEach_23 : decode cX3_putToEach 23 = .ok (.ifnull 18, 3) := by decide +kernel
theorem dX3_putToEach_26 : decode cX3_putToEach 26 = .ok (.iload_n 2, 1) := by decide +kernel
theorem dX3_putToEach_27 : decode cX3_putToEach 27 = .ok (.iload 4, 2) := by decide +kernel
theorem dX3_putToEach_29 : decode cX3_putToEach 29 = .ok (.invokestatic 110, 3) := by decide +kernel
theorem dX3_putToEach_32 : decode cX3_putToEach 32 = .ok (.ifCond .eq 9, 3) := by decide +kernel
theorem dX3_putToEach_35 : decode cX3_putToEach 35 = .ok (.aload 5, 2) := by decide +kernel
theorem dX3_putToEach_37 : decode cX3_putToEach 37 = .ok (.iload_n 3, 1) := by decide +kernel
theorem dX3_putToEach_38 : decode cX3_putToEach 38 = .ok (.invokevirtual 74, 3) := by decide +kernel
theorem dX3_putToEach_41 : decode cX3_putToEach 41 = .ok (.iinc 4 1, 3) := by decide +kernel
theorem dX3_putToEach_44 : decode cX3_putToEach 44 = .ok (.goto (-41), 3) := by decide +kernel
theorem dX3_putToEach_47 : decode cX3_putToEach 47 = .ok (.return_, 1) := by decide +kernel
theorem dX3_giveToken_0 : decode cX3_giveToken 0 = .ok (.aload_n 0, 1) := by decide +kernel
theorem dX3_giveToken_1 : decode cX3_giveToken 1 = .ok (.getfield 41, 3) := by decide +kernel
theorem dX3_giveToken_4 : decode cX3_giveToken 4 = .ok (.iconst (-1), 1) := by decide +kernel
theorem dX3_giveToken_5 : decode cX3_giveToken 5 = .ok (.putfield 126, 3) := by decide +kernel
theorem dX3_giveToken_8 : decode cX3_giveToken 8 = .ok (.aload_n 0, 1) := by decide +kernel
theorem dX3_giveToken_9 : decode cX3_giveToken 9 = .ok (.iload_n 1, 1) := by decide +kernel
theorem dX3_giveToken_10 : decode cX3_giveToken 10 = .ok (.iload_n 2, 1) := by decide +kernel
theorem dX3_giveToken_11 : decode cX3_giveToken 11 = .ok (.iconst 3, 1) := by decide +kernel
theorem dX3_giveToken_12 : decode cX3_giveToken 12 = .ok (.invokevirtual 117, 3) := by decide +kernel
theorem dX3_giveToken_15 : decode cX3_giveToken 15 = .ok (.return_, 1) := by decide +kernel
theorem dX3_isInTree_0 : decode cX3_isInTree 0 = .ok (.iload_n 1, 1) := by decide +kernel
theorem dX3_isInTree_1 : decode cX3_isInTree 1 = .ok (.ifCond .ne 25, 3) := by decide +kernel
theorem dX3_isInTree_4 : decode cX3_isInTree 4 = .ok (.aload_n 0, 1) := by decide +kernel
theorem dX3_isInTree_5 : decode cX3_isInTree 5 = .ok (.getfield 45, 3) := by decide +kernel
theorem dX3_isInTree_8 : decode cX3_isInTree 8 = .ok (.ifCond .eq 14, 3) := by decide +kernel
theorem dX3_isInTree_11 : decode cX3_isInTree 11 = .ok (.aload_n 0, 1) := by decide +kernel
theorem dX3_isInTree_12 : decode cX3_isInTree 12 = .ok (.getfield 213, 3) := by decide +kernel
theorem dX3_isInTree_15 : decode cX3_isInTree 15 = .ok (.ifCond .ne 7, 3) := by decide +kernel
theorem dX3_isInTree_18 : decode cX3_isInTree 18 = .ok (.iconst 1, 1) := by decide +kernel
theorem dX3_isInTree_19 : decode cX3_isInTree 19 = .ok (.goto 20, 3) := by decide +kernel
theorem dX3_isInTree_22 : decode cX3_isInTree 22 = .ok (.iconst 0, 1) := by decide +kernel
theorem dX3_isInTree_23 : decode cX3_isInTree 23 = .ok (.goto 16, 3) := by decide +kernel
theorem dX3_isInTree_26 : decode cX3_isInTree 26 = .ok (.aload_n 2, 1) := by decide +kernel
theorem dX3_isInTree_27 : decode cX3_isInTree 27 = .ok (.getfield 189, 3) := by decide +kernel
theorem dX3_isInTree_30 : decode cX3_isInTree 30 = .ok (.iconst (-1), 1) := by decide +kernel
theorem dX3_isInTree_31 : decode cX3_isInTree 31 = .ok (.if_icmp .eq 7, 3) := by decide +kernel
theorem dX3_isInTree_34 : decode cX3_isInTree 34 = .ok (.iconst 1, 1) := by decide +kernel
theorem dX3_isInTree_35 : decode cX3_isInTree 35 = .ok (.goto 4, 3) := by decide +kernel
theorem dX3_isInTree_38 : decode cX3_isInTree 38 = .ok (.iconst 0, 1) := by decide +kernel
theorem dX3_isInTree_39 : decode cX3_isInTree 39 = .ok (.ireturn, 1) := by decide +kernel
theorem dX3_takeWork_0 : decode cX3_takeWork 0 = .ok (.aload_n 3, 1) := by decide +kernel
theorem dX3_takeWork_1 : decode cX3_takeWork 1 = .ok (.iconst 1, 1) := by decide +kernel
theorem dX3_takeWork_2 : decode cX3_takeWork 2 = .ok (.putfield 49, 3) := by decide +kernel
theorem dX3_takeWork_5 : decode cX3_takeWork 5 = .ok (.aload_n 3, 1) := by decide +kernel
theorem dX3_takeWork_6 : decode cX3_takeWork 6 = .ok (.dup, 1) := by decide +kernel
theorem dX3_takeWork_7 : decode cX3_takeWork 7 = .ok (.getfield 78, 3) := by decide +kernel
theorem dX3_takeWork_10 : decode cX3_takeWork 10 = .ok (.iconst 1, 1) := by decide +kernel
theorem dX3_takeWork_11 : decode cX3_takeWork 11 = .ok (.isub, 1) := by decide +kernel
theorem dX3_takeWork_12 : decode cX3_takeWork 12 = .ok (.putfield 78, 3) := by decide +kernel
theorem dX3_takeWork_15 : decode cX3_takeWork 15 = .ok (.aload_n 3, 1) := by decide +kernel
theorem dX3_takeWork_16 : decode cX3_takeWork 16 = .ok (.iconst 1, 1) := by decide +kernel
theorem dX3_takeWork_17 : decode cX3_takeWork 17 = .ok (.putfield 150, 3) := by decide +kernel
theorem dX3_takeWork_20 : decode cX3_takeWork 20 = .ok (.iload_n 2, 1) := by decide +kernel
theorem dX3_takeWork_21 : decode cX3_takeWork 21 = .ok (.ifCond .eq 12, 3) := by decide +kernel
theorem dX3_takeWork_24 : decode cX3_takeWork 24 = .ok (.aload_n 0, 1) := by decide +kernel
theorem dX3_takeWork_25 : decode cX3_takeWork 25 = .ok (.iload_n 2, 1) := by decide +kernel
theorem dX3_takeWork_26 : decode cX3_takeWork 26 = .ok (.aload_n 3, 1) := by decide +kernel
theorem dX3_takeWork_27 : decode cX3_takeWork 27 = .ok (.invokevirtual 185, 3) := by decide +kernel
theorem dX3_takeWork_30 : decode cX3_takeWork 30 = .ok (.ifCond .eq 13, 3) := by decide +kernel
theorem dX3_takeWork_33 : decode cX3_takeWork 33 = .ok (.aload_n 0, 1) := by decide +kernel
theorem dX3_takeWork_34 : decode cX3_takeWork 34 = .ok (.iload_n 2, 1) := by decide +kernel
theorem dX3_takeWork_35 : decode cX3_takeWork 35 = .ok (.iload_n 1, 1) := by decide +kernel
theorem dX3_takeWork_36 : decode cX3_takeWork 36 = .ok (.iconst 2, 1) := by decide +kernel
theorem dX3_takeWork_37 : decode cX3_takeWork 37 = .ok (.invokevirtual 117, 3) := by decide +kernel
theorem dX3_takeWork_40 : decode cX3_takeWork 40 = .ok (.goto 8, 3) := by decide +kernel
theorem dX3_takeWork_43 : decode cX3_takeWork 43 = .ok (.aload_n 3, 1) := by decide +kernel
theorem dX3_takeWork_44 : decode cX3_takeWork 44 = .ok (.iload_n 1, 1) := by decide +kernel
theorem dX3_takeWork_45 : decode cX3_takeWork 45 = .ok (.putfield 189, 3) := by decide +kernel
theorem dX3_takeWork_48 : decode cX3_takeWork 48 = .ok (.return_, 1) := by decide +kernel
theorem dX3_leaveTreeIfDone_0 : decode cX3_leaveTreeIfDone 0 = .ok (.aload_n 2, 1) := by decide +kernel
theorem dX3_leaveTreeIfDone_1 : decode cX3_leaveTreeIfDone 1 = .ok (.getfield 49, 3) := by decide +kernel
theorem dX3_leaveTreeIfDone_4 : decode cX3_leaveTreeIfDone 4 = .ok (.ifCond .ne 19, 3) := by decide +kernel
theorem dX3_leaveTreeIfDone_7 : decode cX3_leaveTreeIfDone 7 = .ok (.aload_n 2, 1) := by decide +kernel
theorem dX3_leaveTreeIfDone_8 : decode cX3_leaveTreeIfDone 8 = .ok (.getfield 71, 3) := by decide +kernel
theorem dX3_leaveTreeIfDone_11 : decode cX3_leaveTreeIfDone 11 = .ok (.ifCond .ne 12, 3) := by decide +kernel
theorem dX3_leaveTreeIfDone_14 : decode cX3_leaveTreeIfDone 14 = .ok (.aload_n 0, 1) := by decide +kernel
theorem dX3_leaveTreeIfDone_15 : decode cX3_leaveTreeIfDone 15 = .ok (.iload_n 1, 1) := by decide +kernel
theorem dX3_leaveTreeIfDone_16 : decode cX3_leaveTreeIfDone 16 = .ok (.aload_n 2, 1) := by decide +kernel
theorem dX3_leaveTreeIfDone_17 : decode cX3_leaveTreeIfDone 17 = .ok (.invokevirtual 185, 3) := by decide +kernel
theorem dX3_leaveTreeIfDone_20 : decode cX3_leaveTreeIfDone 20 = .ok (.ifCond .ne 4, 3) := by decide +kernel
theorem dX3_leaveTreeIfDone_23 : decode cX3_leaveTreeIfDone 23 = .ok (.return_, 1) := by decide +kernel
theorem dX3_leaveTreeIfDone_24 : decode cX3_leaveTreeIfDone 24 = .ok (.iload_n 1, 1) := by decide +kernel
theorem dX3_leaveTreeIfDone_25 : decode cX3_leaveTreeIfDone 25 = .ok (.ifCond .ne 15, 3) := by decide +kernel
theorem dX3_leaveTreeIfDone_28 : decode cX3_leaveTreeIfDone 28 = .ok (.aload_n 0, 1) := by decide +kernel
theorem dX3_leaveTreeIfDone_29 : decode cX3_leaveTreeIfDone 29 = .ok (.iconst 1, 1) := by decide +kernel
theorem dX3_leaveTreeIfDone_30 : decode cX3_leaveTreeIfDone 30 = .ok (.putfield 213, 3) := by decide +kernel
theorem dX3_leaveTreeIfDone_33 : decode cX3_leaveTreeIfDone 33 = .ok (.aload_n 0, 1) := by decide +kernel
theorem dX3_leaveTreeIfDone_34 : decode cX3_leaveTreeIfDone 34 = .ok (.invokevirtual 144, 3) := by decide +kernel
theorem dX3_leaveTreeIfDone_37 : decode cX3_leaveTreeIfDone 37 = .ok (.goto 18, 3) := by decide +kernel
theorem dX3_leaveTreeIfDone_40 : decode cX3_leaveTreeIfDone 40 = .ok (.aload_n 0, 1) := by decide +kernel
theorem dX3_leaveTreeIfDone_41 : decode cX3_leaveTreeIfDone 41 = .ok (.iload_n 1, 1) := by decide +kernel
theorem dX3_leaveTreeIfDone_42 : decode cX3_leaveTreeIfDone 42 = .ok (.aload_n 2, 1) := by decide +kernel
theorem dX3_leaveTreeIfDone_43 : decode cX3_leaveTreeIfDone 43 = .ok (.getfield 189, 3) := by decide +kernel
theorem dX3_leaveTreeIfDone_46 : decode cX3_leaveTreeIfDone 46 = .ok (.iconst 2, 1) := by decide +kernel
theorem dX3_leaveTreeIfDone_47 : decode cX3_leaveTreeIfDone 47 = .ok (.invokevirtual 117, 3) := by decide +kernel
theorem dX3_leaveTreeIfDone_50 : decode cX3_leaveTreeIfDone 50 = .ok (.aload_n 2, 1) := by decide +kernel
theorem dX3_leaveTreeIfDone_51 : decode cX3_leaveTreeIfDone 51 = .ok (.iconst (-1), 1) := by decide +kernel
theorem dX3_leaveTreeIfDone_52 : decode cX3_leaveTreeIfDone 52 = .ok (.putfield 189, 3) := by decide +kernel
theorem dX3_leaveTreeIfDone_55 : decode cX3_leaveTreeIfDone 55 = .ok (.return_, 1) := by decide +kernel
theorem dX3_judgeEnd_0 : decode cX3_judgeEnd 0 = .ok (.aload_n 0, 1) := by decide +kernel
theorem dX3_judgeEnd_1 : decode cX3_judgeEnd 1 = .ok (.invokevirtual 234, 3) := by decide +kernel
theorem dX3_judgeEnd_4 : decode cX3_judgeEnd 4 = .ok (.ifCond .ne 13, 3) := by decide +kernel
theorem dX3_judgeEnd_7 : decode cX3_judgeEnd 7 = .ok (.aload_n 0, 1) := by decide +kernel
theorem dX3_judgeEnd_8 : decode cX3_judgeEnd 8 = .ok (.dup, 1) := by decide +kernel
theorem dX3_judgeEnd_9 : decode cX3_judgeEnd 9 = .ok (.getfield 207, 3) := by decide +kernel
theorem dX3_judgeEnd_12 : decode cX3_judgeEnd 12 = .ok (.iconst 1, 1) := by decide +kernel
theorem dX3_judgeEnd_13 : decode cX3_judgeEnd 13 = .ok (.iadd, 1) := by decide +kernel
theorem dX3_judgeEnd_14 : decode cX3_judgeEnd 14 = .ok (.putfield 207, 3) := by decide +kernel
theorem dX3_judgeEnd_17 : decode cX3_judgeEnd 17 = .ok (.return_, 1) := by decide +kernel
theorem dX3_takeProbe_0 : decode cX3_takeProbe 0 = .ok (.aload_n 3, 1) := by decide +kernel
theorem dX3_takeProbe_1 : decode cX3_takeProbe 1 = .ok (.invokevirtual 104, 3) := by decide +kernel
theorem dX3_takeProbe_4 : decode cX3_takeProbe 4 = .ok (.ifCond .eq 14, 3) := by decide +kernel
theorem dX3_takeProbe_7 : decode cX3_takeProbe 7 = .ok (.aload_n 3, 1) := by decide +kernel
theorem dX3_takeProbe_8 : decode cX3_takeProbe 8 = .ok (.getfield 107, 3) := by decide +kernel
theorem dX3_takeProbe_11 : decode cX3_takeProbe 11 = .ok (.iload_n 1, 1) := by decide +kernel
theorem dX3_takeProbe_12 : decode cX3_takeProbe 12 = .ok (.invokestatic 110, 3) := by decide +kernel
theorem dX3_takeProbe_15 : decode cX3_takeProbe 15 = .ok (.ifCond .ne 4, 3) := by decide +kernel
theorem dX3_takeProbe_18 : decode cX3_takeProbe 18 = .ok (.return_, 1) := by decide +kernel
theorem dX3_takeProbe_19 : decode cX3_takeProbe 19 = .ok (.iload 4, 2) := by decide +kernel
theorem dX3_takeProbe_21 : decode cX3_takeProbe 21 = .ok (.invokestatic 198, 3) := by decide +kernel
theorem dX3_takeProbe_24 : decode cX3_takeProbe 24 = .ok (.istore 5, 2) := by decide +kernel
theorem dX3_takeProbe_26 : decode cX3_takeProbe 26 = .ok (.iload 5, 2) := by decide +kernel
theorem dX3_takeProbe_28 : decode cX3_takeProbe 28 = .ok (.iload_n 2, 1) := by decide +kernel
theorem dX3_takeProbe_29 : decode cX3_takeProbe 29 = .ok (.if_icmp .ne 12, 3) := by decide +kernel
theorem dX3_takeProbe_32 : decode cX3_takeProbe 32 = .ok (.aload_n 0, 1) := by decide +kernel
theorem dX3_takeProbe_33 : decode cX3_takeProbe 33 = .ok (.iload_n 2, 1) := by decide +kernel
theorem dX3_takeProbe_34 : decode cX3_takeProbe 34 = .ok (.aload_n 3, 1) := by decide +kernel
theorem dX3_takeProbe_35 : decode cX3_takeProbe 35 = .ok (.invokevirtual 237, 3) := by decide +kernel
theorem dX3_takeProbe_38 : decode cX3_takeProbe 38 = .ok (.goto 28, 3) := by decide +kernel
theorem dX3_takeProbe_41 : decode cX3_takeProbe 41 = .ok (.aload_n 3, 1) := by decide +kernel
theorem dX3_takeProbe_42 : decode cX3_takeProbe 42 = .ok (.iload 5, 2) := by decide +kernel
theorem dX3_takeProbe_44 : decode cX3_takeProbe 44 = .ok (.iload 4, 2) := by decide +kernel
theorem dX3_takeProbe_46 : decode cX3_takeProbe 46 = .ok (.invokestatic 201, 3) := by decide +kernel
theorem dX3_takeProbe_49 : decode cX3_takeProbe 49 = .ok (.invokevirtual 240, 3) := by decide +kernel
theorem dX3_takeProbe_52 : decode cX3_takeProbe 52 = .ok (.ifCond .eq 14, 3) := by decide +kernel
theorem dX3_takeProbe_55 : decode cX3_takeProbe 55 = .ok (.aload_n 0, 1) := by decide +kernel
theorem dX3_takeProbe_56 : decode cX3_takeProbe 56 = .ok (.iload_n 2, 1) := by decide +kernel
theorem dX3_takeProbe_57 : decode cX3_takeProbe 57 = .ok (.aload_n 3, 1) := by decide +kernel
theorem dX3_takeProbe_58 : decode cX3_takeProbe 58 = .ok (.getfield 92, 3) := by decide +kernel
theorem dX3_takeProbe_61 : decode cX3_takeProbe 61 = .ok (.iload 4, 2) := by decide +kernel
theorem dX3_takeProbe_63 : decode cX3_takeProbe 63 = .ok (.invokevirtual 95, 3) := by decide +kernel
theorem dX3_takeProbe_66 : decode cX3_takeProbe 66 = .ok (.return_, 1) := by decide +kernel
theorem dX3_tellDead_0 : decode cX3_tellDead 0 = .ok (.aload_n 2, 1) := by decide +kernel
theorem dX3_tellDead_1 : decode cX3_tellDead 1 = .ok (.dup, 1) := by decide +kernel
theorem dX3_tellDead_2 : decode cX3_tellDead 2 = .ok (.getfield 192, 3) := by decide +kernel
theorem dX3_tellDead_5 : decode cX3_tellDead 5 = .ok (.iconst 1, 1) := by decide +kernel
theorem dX3_tellDead_6 : decode cX3_tellDead 6 = .ok (.iadd, 1) := by decide +kernel
theorem dX3_tellDead_7 : decode cX3_tellDead 7 = .ok (.putfield 192, 3) := by decide +kernel
theorem dX3_tellDead_10 : decode cX3_tellDead 10 = .ok (.aload_n 0, 1) := by decide +kernel
theorem dX3_tellDead_11 : decode cX3_tellDead 11 = .ok (.dup, 1) := by decide +kernel
theorem dX3_tellDead_12 : decode cX3_tellDead 12 = .ok (.getfield 226, 3) := by decide +kernel
theorem dX3_tellDead_15 : decode cX3_tellDead 15 = .ok (.iconst 1, 1) := by decide +kernel
theorem dX3_tellDead_16 : decode cX3_tellDead 16 = .ok (.iadd, 1) := by decide +kernel
theorem dX3_tellDead_17 : decode cX3_tellDead 17 = .ok (.putfield 226, 3) := by decide +kernel
theorem dX3_tellDead_20 : decode cX3_tellDead 20 = .ok (.aload_n 0, 1) := by decide +kernel
theorem dX3_tellDead_21 : decode cX3_tellDead 21 = .ok (.iload_n 1, 1) := by decide +kernel
theorem dX3_tellDead_22 : decode cX3_tellDead 22 = .ok (.invokevirtual 243, 3) := by decide +kernel
theorem dX3_tellDead_25 : decode cX3_tellDead 25 = .ok (.ifCond .ne 13, 3) := by decide +kernel
theorem dX3_tellDead_28 : decode cX3_tellDead 28 = .ok (.aload_n 0, 1) := by decide +kernel
theorem dX3_tellDead_29 : decode cX3_tellDead 29 = .ok (.dup, 1) := by decide +kernel
theorem dX3_tellDead_30 : decode cX3_tellDead 30 = .ok (.getfield 210, 3) := by decide +kernel
theorem dX3_tellDead_33 : decode cX3_tellDead 33 = .ok (.iconst 1, 1) := by decide +kernel
theorem dX3_tellDead_34 : decode cX3_tellDead 34 = .ok (.iadd, 1) := by decide +kernel
theorem dX3_tellDead_35 : decode cX3_tellDead 35 = .ok (.putfield 210, 3) := by decide +kernel
theorem dX3_tellDead_38 : decode cX3_tellDead 38 = .ok (.return_, 1) := by decide +kernel
theorem dX3_isInRing_0 : decode cX3_isInRing 0 = .ok (.aload_n 0, 1) := by decide +kernel
theorem dX3_isInRing_1 : decode cX3_isInRing 1 = .ok (.getfield 26, 3) := by decide +kernel
theorem dX3_isInRing_4 : decode cX3_isInRing 4 = .ok (.iload_n 1, 1) := by decide +kernel
theorem dX3_isInRing_5 : decode cX3_isInRing 5 = .ok (.aaload, 1) := by decide +kernel
theorem dX3_isInRing_6 : decode cX3_isInRing 6 = .ok (.invokevirtual 246, 3) := by decide +kernel
theorem dX3_isInRing_9 : decode cX3_isInRing 9 = .ok (.istore_n 2, 1) := by decide +kernel
theorem dX3_isInRing_10 : decode cX3_isInRing 10 = .ok (.iconst 0, 1) := by decide +kernel
theorem dX3_isInRing_11 : decode cX3_isInRing 11 = .ok (.istore_n 3, 1) := by decide +kernel
theorem dX3_isInRing_12 : decode cX3_isInRing 12 = .ok (.iload_n 3, 1) := by decide +kernel
theorem dX3_isInRing_13 : decode cX3_isInRing 13 = .ok (.aload_n 0, 1) := by decide +kernel
theorem dX3_isInRing_14 : decode cX3_isInRing 14 = .ok (.getfield 18, 3) := by decide +kernel
theorem dX3_isInRing_17 : decode cX3_isInRing 17 = .ok (.if_icmp .ge 57, 3) := by decide +kernel
theorem dX3_isInRing_20 : decode cX3_isInRing 20 = .ok (.iload_n 2, 1) := by decide +kernel
theorem dX3_isInRing_21 : decode cX3_isInRing 21 = .ok (.iload_n 1, 1) := by decide +kernel
theorem dX3_isInRing_22 : decode cX3_isInRing 22 = .ok (.invokestatic 110, 3) := by decide +kernel
theorem dX3_isInRing_25 : decode cX3_isInRing 25 = .ok (.ifCond .ne 49, 3) := by decide +kernel
theorem dX3_isInRing_28 : decode cX3_isInRing 28 = .ok (.iconst 0, 1) := by decide +kernel
theorem dX3_isInRing_29 : decode cX3_isInRing 29 = .ok (.istore 4, 2) := by decide +kernel
theorem dX3_isInRing_31 : decode cX3_isInRing 31 = .ok (.iload 4, 2) := by decide +kernel
theorem dX3_isInRing_33 : decode cX3_isInRing 33 = .ok (.aload_n 0, 1) := by decide +kernel
theorem dX3_isInRing_34 : decode cX3_isInRing 34 = .ok (.getfield 18, 3) := by decide +kernel
theorem dX3_isInRing_37 : decode cX3_isInRing 37 = .ok (.if_icmp .ge 31, 3) := by decide +kernel
theorem dX3_isInRing_40 : decode cX3_isInRing 40 = .ok (.iload_n 2, 1) := by decide +kernel
theorem dX3_isInRing_41 : decode cX3_isInRing 41 = .ok (.iload 4, 2) := by decide +kernel
theorem dX3_isInRing_43 : decode cX3_isInRing 43 = .ok (.invokestatic 110, 3) := by decide +kernel
theorem dX3_isInRing_46 : decode cX3_isInRing 46 = .ok (.ifCond .eq 16, 3) := by decide +kernel
theorem dX3_isInRing_49 : decode cX3_isInRing 49 = .ok (.iload_n 2, 1) := by decide +kernel
theorem dX3_isInRing_50 : decode cX3_isInRing 50 = .ok (.aload_n 0, 1) := by decide +kernel
theorem dX3_isInRing_51 : decode cX3_isInRing 51 = .ok (.getfield 26, 3) := by decide +kernel
theorem dX3_isInRing_54 : decode cX3_isInRing 54 = .ok (.iload 4, 2) := by decide +kernel
theorem dX3_isInRing_56 : decode cX3_isInRing 56 = .ok (.aaload, 1) := by decide +kernel
theorem dX3_isInRing_57 : decode cX3_isInRing 57 = .ok (.invokevirtual 246, 3) := by decide +kernel
theorem dX3_isInRing_60 : decode cX3_isInRing 60 = .ok (.ior, 1) := by decide +kernel
theorem dX3_isInRing_61 : decode cX3_isInRing 61 = .ok (.istore_n 2, 1) := by decide +kernel
theorem dX3_isInRing_62 : decode cX3_isInRing 62 = .ok (.iinc 4 1, 3) := by decide +kernel
theorem dX3_isInRing_65 : decode cX3_isInRing 65 = .ok (.goto (-34), 3) := by decide +kernel
theorem dX3_isInRing_68 : decode cX3_isInRing 68 = .ok (.iinc 3 1, 3) := by decide +kernel
theorem dX3_isInRing_71 : decode cX3_isInRing 71 = .ok (.goto (-59), 3) := by decide +kernel
theorem dX3_isInRing_74 : decode cX3_isInRing 74 = .ok (.iload_n 2, 1) := by decide +kernel
theorem dX3_isInRing_75 : decode cX3_isInRing 75 = .ok (.iload_n 1, 1) := by decide +kernel
theorem dX3_isInRing_76 : decode cX3_isInRing 76 = .ok (.invokestatic 110, 3) := by decide +kernel
theorem dX3_isInRing_79 : decode cX3_isInRing 79 = .ok (.ireturn, 1) := by decide +kernel
theorem dX3_messagesUnderWay_0 : decode cX3_messagesUnderWay 0 = .ok (.iconst 0, 1) := by decide +kernel
theorem dX3_messagesUnderWay_1 : decode cX3_messagesUnderWay 1 = .ok (.istore_n 1, 1) := by decide +kernel
theorem dX3_messagesUnderWay_2 : decode cX3_messagesUnderWay 2 = .ok (.aload_n 0, 1) := by decide +kernel
theorem dX3_messagesUnderWay_3 : decode cX3_messagesUnderWay 3 = .ok (.getfield 34, 3) := by decide +kernel
theorem dX3_messagesUnderWay_6 : decode cX3_messagesUnderWay 6 = .ok (.astore_n 2, 1) := by decide +kernel
theorem dX3_messagesUnderWay_7 : decode cX3_messagesUnderWay 7 = .ok (.aload_n 2, 1) := by decide +kernel
theorem dX3_messagesUnderWay_8 : decode cX3_messagesUnderWay 8 = .ok (.arraylength, 1) := by decide +kernel
theorem dX3_messagesUnderWay_9 : decode cX3_messagesUnderWay 9 = .ok (.istore_n 3, 1) := by decide +kernel
theorem dX3_messagesUnderWay_10 : decode cX3_messagesUnderWay 10 = .ok (.iconst 0, 1) := by decide +kernel
theorem dX3_messagesUnderWay_11 : decode cX3_messagesUnderWay 11 = .ok (.istore 4, 2) := by decide +kernel
theorem dX3_messagesUnderWay_13 : decode cX3_messagesUnderWay 13 = .ok (.iload 4, 2) := by decide +kernel
theorem dX3_messagesUnderWay_15 : decode cX3_messagesUnderWay 15 = .ok (.iload_n 3, 1) := by decide +kernel
theorem dX3_messagesUnderWay_16 : decode cX3_messagesUnderWay 16 = .ok (.if_icmp .ge 32, 3) := by decide +kernel
theorem dX3_messagesUnderWay_19 : decode cX3_messagesUnderWay 19 = .ok (.aload_n 2, 1) := by decide +kernel
theorem dX3_messagesUnderWay_20 : decode cX3_messagesUnderWay 20 = .ok (.iload 4, 2) := by decide +kernel
theorem dX3_messagesUnderWay_22 : decode cX3_messagesUnderWay 22 = .ok (.aaload, 1) := by decide +kernel
theorem dX3_messagesUnderWay_23 : decode cX3_messagesUnderWay 23 = .ok (.astore 5, 2) := by decide +kernel
theorem dX3_messagesUnderWay_25 : decode cX3_messagesUnderWay 25 = .ok (.iload_n 1, 1) := by decide +kernel
theorem dX3_messagesUnderWay_26 : decode cX3_messagesUnderWay 26 = .ok (.aload 5, 2) := by decide +kernel
theorem dX3_messagesUnderWay_28 : decode cX3_messagesUnderWay 28 = .ok (.ifnonnull 7, 3) := by decide +kernel
theorem dX3_messagesUnderWay_31 : decode cX3_messagesUnderWay 31 = .ok (.iconst 0, 1) := by decide +kernel
theorem dX3_messagesUnderWay_32 : decode cX3_messagesUnderWay 32 = .ok (.goto 8, 3) := by decide +kernel
theorem dX3_messagesUnderWay_35 : decode cX3_messagesUnderWay 35 = .ok (.aload 5, 2) := by decide +kernel
theorem dX3_messagesUnderWay_37 : decode cX3_messagesUnderWay 37 = .ok (.getfield 153, 3) := by decide +kernel
theorem dX3_messagesUnderWay_40 : decode cX3_messagesUnderWay 40 = .ok (.iadd, 1) := by decide +kernel
theorem dX3_messagesUnderWay_41 : decode cX3_messagesUnderWay 41 = .ok (.istore_n 1, 1) := by decide +kernel
theorem dX3_messagesUnderWay_42 : decode cX3_messagesUnderWay 42 = .ok (.iinc 4 1, 3) := by decide +kernel
theorem dX3_messagesUnderWay_45 : decode cX3_messagesUnderWay 45 = .ok (.goto (-32), 3) := by decide +kernel
theorem dX3_messagesUnderWay_48 : decode cX3_messagesUnderWay 48 = .ok (.iload_n 1, 1) := by decide +kernel
theorem dX3_messagesUnderWay_49 : decode cX3_messagesUnderWay 49 = .ok (.ireturn, 1) := by decide +kernel
theorem dX3_worksUnderWay_0 : decode cX3_worksUnderWay 0 = .ok (.iconst 0, 1) := by decide +kernel
theorem dX3_worksUnderWay_1 : decode cX3_worksUnderWay 1 = .ok (.istore_n 1, 1) := by decide +kernel
theorem dX3_worksUnderWay_2 : decode cX3_worksUnderWay 2 = .ok (.aload_n 0, 1) := by decide +kernel
theorem dX3_worksUnderWay_3 : decode cX3_worksUnderWay 3 = .ok (.getfield 34, 3) := by decide +kernel
theorem dX3_worksUnderWay_6 : decode cX3_worksUnderWay 6 = .ok (.astore_n 2, 1) := by decide +kernel
theorem dX3_worksUnderWay_7 : decode cX3_worksUnderWay 7 = .ok (.aload_n 2, 1) := by decide +kernel
theorem dX3_worksUnderWay_8 : decode cX3_worksUnderWay 8 = .ok (.arraylength, 1) := by decide +kernel
theorem dX3_worksUnderWay_9 : decode cX3_worksUnderWay 9 = .ok (.istore_n 3, 1) := by decide +kernel
theorem dX3_worksUnderWay_10 : decode cX3_worksUnderWay 10 = .ok (.iconst 0, 1) := by decide +kernel
theorem dX3_worksUnderWay_11 : decode cX3_worksUnderWay 11 = .ok (.istore 4, 2) := by decide +kernel
theorem dX3_worksUnderWay_13 : decode cX3_worksUnderWay 13 = .ok (.iload 4, 2) := by decide +kernel
theorem dX3_worksUnderWay_15 : decode cX3_worksUnderWay 15 = .ok (.iload_n 3, 1) := by decide +kernel
theorem dX3_worksUnderWay_16 : decode cX3_worksUnderWay 16 = .ok (.if_icmp .ge 32, 3) := by decide +kernel
theorem dX3_worksUnderWay_19 : decode cX3_worksUnderWay 19 = .ok (.aload_n 2, 1) := by decide +kernel
theorem dX3_worksUnderWay_20 : decode cX3_worksUnderWay 20 = .ok (.iload 4, 2) := by decide +kernel
theorem dX3_worksUnderWay_22 : decode cX3_worksUnderWay 22 = .ok (.aaload, 1) := by decide +kernel
theorem dX3_worksUnderWay_23 : decode cX3_worksUnderWay 23 = .ok (.astore 5, 2) := by decide +kernel
theorem dX3_worksUnderWay_25 : decode cX3_worksUnderWay 25 = .ok (.iload_n 1, 1) := by decide +kernel
theorem dX3_worksUnderWay_26 : decode cX3_worksUnderWay 26 = .ok (.aload 5, 2) := by decide +kernel
theorem dX3_worksUnderWay_28 : decode cX3_worksUnderWay 28 = .ok (.ifnonnull 7, 3) := by decide +kernel
theorem dX3_worksUnderWay_31 : decode cX3_worksUnderWay 31 = .ok (.iconst 0, 1) := by decide +kernel
theorem dX3_worksUnderWay_32 : decode cX3_worksUnderWay 32 = .ok (.goto 8, 3) := by decide +kernel
theorem dX3_worksUnderWay_35 : decode cX3_worksUnderWay 35 = .ok (.aload 5, 2) := by decide +kernel
theorem dX3_worksUnderWay_37 : decode cX3_worksUnderWay 37 = .ok (.getfield 66, 3) := by decide +kernel
theorem dX3_worksUnderWay_40 : decode cX3_worksUnderWay 40 = .ok (.iadd, 1) := by decide +kernel
theorem dX3_worksUnderWay_41 : decode cX3_worksUnderWay 41 = .ok (.istore_n 1, 1) := by decide +kernel
theorem dX3_worksUnderWay_42 : decode cX3_worksUnderWay 42 = .ok (.iinc 4 1, 3) := by decide +kernel
theorem dX3_worksUnderWay_45 : decode cX3_worksUnderWay 45 = .ok (.goto (-32), 3) := by decide +kernel
theorem dX3_worksUnderWay_48 : decode cX3_worksUnderWay 48 = .ok (.iload_n 1, 1) := by decide +kernel
theorem dX3_worksUnderWay_49 : decode cX3_worksUnderWay 49 = .ok (.ireturn, 1) := by decide +kernel
