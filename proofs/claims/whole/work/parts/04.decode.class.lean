theorem dJx00060_init_a7421_0 : decode cJx00060_init_a7421 0 = .ok (.aload_n 0, 1) := by decide +kernel
theorem dJx00060_init_a7421_1 : decode cJx00060_init_a7421 1 = .ok (.aload_n 1, 1) := by decide +kernel
theorem dJx00060_init_a7421_2 : decode cJx00060_init_a7421 2 = .ok (.invokespecial 7, 3) := by decide +kernel
theorem dJx00060_init_a7421_5 : decode cJx00060_init_a7421 5 = .ok (.return_, 1) := by decide +kernel
theorem dJ9_abs_0f7a4_0 : decode cJ9_abs_0f7a4 0 = .ok (.iload_n 0, 1) := by decide +kernel
theorem dJ9_abs_0f7a4_1 : decode cJ9_abs_0f7a4 1 = .ok (.ifCond .ge 8, 3) := by decide +kernel
theorem dJ9_abs_0f7a4_4 : decode cJ9_abs_0f7a4 4 = .ok (.iload_n 0, 1) := by decide +kernel
theorem dJ9_abs_0f7a4_5 : decode cJ9_abs_0f7a4 5 = .ok (.ineg, 1) := by decide +kernel
theorem dJ9_abs_0f7a4_6 : decode cJ9_abs_0f7a4 6 = .ok (.goto 4, 3) := by decide +kernel
theorem dJ9_abs_0f7a4_9 : decode cJ9_abs_0f7a4 9 = .ok (.iload_n 0, 1) := by decide +kernel
theorem dJ9_abs_0f7a4_10 : decode cJ9_abs_0f7a4 10 = .ok (.ireturn, 1) := by decide +kernel
theorem dJ9_min_7cf53_0 : decode cJ9_min_7cf53 0 = .ok (.iload_n 0, 1) := by decide +kernel
theorem dJ9_min_7cf53_1 : decode cJ9_min_7cf53 1 = .ok (.iload_n 1, 1) := by decide +kernel
theorem dJ9_min_7cf53_2 : decode cJ9_min_7cf53 2 = .ok (.if_icmp .gt 7, 3) := by decide +kernel
theorem dJ9_min_7cf53_5 : decode cJ9_min_7cf53 5 = .ok (.iload_n 0, 1) := by decide +kernel
theorem dJ9_min_7cf53_6 : decode cJ9_min_7cf53 6 = .ok (.goto 4, 3) := by decide +kernel
theorem dJ9_min_7cf53_9 : decode cJ9_min_7cf53 9 = .ok (.iload_n 1, 1) := by decide +kernel
theorem dJ9_min_7cf53_10 : decode cJ9_min_7cf53 10 = .ok (.ireturn, 1) := by decide +kernel
theorem dX0_init_0 : decode cX0_init 0 = .ok (.aload_n 0, 1) := by decide +kernel
theorem dX0_init_1 : decode cX0_init 1 = .ok (.invokespecial 3, 3) := by decide +kernel
theorem dX0_init_4 : decode cX0_init 4 = .ok (.aload_n 0, 1) := by decide +kernel
theorem dX0_init_5 : decode cX0_init 5 = .ok (.iconst 3, 1) := by decide +kernel
theorem dX0_init_6 : decode cX0_init 6 = .ok (.anewarray 9, 3) := by decide +kernel
theorem dX0_init_9 : decode cX0_init 9 = .ok (.putfield 11, 3) := by decide +kernel
theorem dX0_init_12 : decode cX0_init 12 = .ok (.aload_n 0, 1) := by decide +kernel
theorem dX0_init_13 : decode cX0_init 13 = .ok (.iconst 3, 1) := by decide +kernel
theorem dX0_init_14 : decode cX0_init 14 = .ok (.newarray .int, 2) := by decide +kernel
theorem dX0_init_16 : decode cX0_init 16 = .ok (.putfield 17, 3) := by decide +kernel
theorem dX0_init_19 : decode cX0_init 19 = .ok (.return_, 1) := by decide +kernel
theorem dX0_speaker_0 : decode cX0_speaker 0 = .ok (.iload_n 1, 1) := by decide +kernel
theorem dX0_speaker_1 : decode cX0_speaker 1 = .ok (.ifCond .lt 21, 3) := by decide +kernel
theorem dX0_speaker_4 : decode cX0_speaker 4 = .ok (.iload_n 1, 1) := by decide +kernel
theorem dX0_speaker_5 : decode cX0_speaker 5 = .ok (.aload_n 0, 1) := by decide +kernel
theorem dX0_speaker_6 : decode cX0_speaker 6 = .ok (.getfield 11, 3) := by decide +kernel
theorem dX0_speaker_9 : decode cX0_speaker 9 = .ok (.arraylength, 1) := by decide +kernel
theorem dX0_speaker_10 : decode cX0_speaker 10 = .ok (.if_icmp .ge 12, 3) := by decide +kernel
theorem dX0_speaker_13 : decode cX0_speaker 13 = .ok (.aload_n 0, 1) := by decide +kernel
theorem dX0_speaker_14 : decode cX0_speaker 14 = .ok (.getfield 11, 3) := by decide +kernel
theorem dX0_speaker_17 : decode cX0_speaker 17 = .ok (.iload_n 1, 1) := by decide +kernel
theorem dX0_speaker_18 : decode cX0_speaker 18 = .ok (.aaload, 1) := by decide +kernel
theorem dX0_speaker_19 : decode cX0_speaker 19 = .ok (.goto 4, 3) := by decide +kernel
theorem dX0_speaker_22 : decode cX0_speaker 22 = .ok (.aconst_null, 1) := by decide +kernel
theorem dX0_speaker_23 : decode cX0_speaker 23 = .ok (.areturn, 1) := by decide +kernel
theorem dX0_holderOf_0 : decode cX0_holderOf 0 = .ok (.iconst 0, 1) := by decide +kernel
theorem dX0_holderOf_1 : decode cX0_holderOf 1 = .ok (.istore_n 2, 1) := by decide +kernel
theorem dX0_holderOf_2 : decode cX0_holderOf 2 = .ok (.iload_n 2, 1) := by decide +kernel
theorem dX0_holderOf_3 : decode cX0_holderOf 3 = .ok (.aload_n 0, 1) := by decide +kernel
theorem dX0_holderOf_4 : decode cX0_holderOf 4 = .ok (.getfield 11, 3) := by decide +kernel
theorem dX0_holderOf_7 : decode cX0_holderOf 7 = .ok (.arraylength, 1) := by decide +kernel
theorem dX0_holderOf_8 : decode cX0_holderOf 8 = .ok (.if_icmp .ge 32, 3) := by decide +kernel
theorem dX0_holderOf_11 : decode cX0_holderOf 11 = .ok (.aload_n 0, 1) := by decide +kernel
theorem dX0_holderOf_12 : decode cX0_holderOf 12 = .ok (.getfield 11, 3) := by decide +kernel
theorem dX0_holderOf_15 : decode cX0_holderOf 15 = .ok (.iload_n 2, 1) := by decide +kernel
theorem dX0_holderOf_16 : decode cX0_holderOf 16 = .ok (.aaload, 1) := by decide +kernel
theorem dX0_holderOf_17 : decode cX0_holderOf 17 = .ok (.astore_n 3, 1) := by decide +kernel
theorem dX0_holderOf_18 : decode cX0_holderOf 18 = .ok (.aload_n 3, 1) := by decide +kernel
theorem dX0_holderOf_19 : decode cX0_holderOf 19 = .ok (.ifnull 15, 3) := by decide +kernel
theorem dX0_holderOf_22 : decode cX0_holderOf 22 = .ok (.aload_n 3, 1) := by decide +kernel
theorem dX0_holderOf_23 : decode cX0_holderOf 23 = .ok (.iconst 1, 1) := by decide +kernel
theorem dX0_holderOf_24 : decode cX0_holderOf 24 = .ok (.iload_n 1, 1) := by decide +kernel
theorem dX0_holderOf_25 : decode cX0_holderOf 25 = .ok (.ishl, 1) := by decide +kernel
theorem dX0_holderOf_26 : decode cX0_holderOf 26 = .ok (.invokevirtual 21, 3) := by decide +kernel
theorem dX0_holderOf_29 : decode cX0_holderOf 29 = .ok (.ifCond .eq 5, 3) := by decide +kernel
theorem dX0_holderOf_32 : decode cX0_holderOf 32 = .ok (.aload_n 3, 1) := by decide +kernel
theorem dX0_holderOf_33 : decode cX0_holderOf 33 = .ok (.areturn, 1) := by decide +kernel
theorem dX0_holderOf_34 : decode cX0_holderOf 34 = .ok (.iinc 2 1, 3) := by decide +kernel
theorem dX0_holderOf_37 : decode cX0_holderOf 37 = .ok (.goto (-35), 3) := by decide +kernel
theorem dX0_holderOf_40 : decode cX0_holderOf 40 = .ok (.aconst_null, 1) := by decide +kernel
theorem dX0_holderOf_41 : decode cX0_holderOf 41 = .ok (.areturn, 1) := by decide +kernel
theorem dX0_busyCount_0 : decode cX0_busyCount 0 = .ok (.iconst 0, 1) := by decide +kernel
theorem dX0_busyCount_1 : decode cX0_busyCount 1 = .ok (.istore_n 1, 1) := by decide +kernel
theorem dX0_busyCount_2 : decode cX0_busyCount 2 = .ok (.iconst 0, 1) := by decide +kernel
theorem dX0_busyCount_3 : decode cX0_busyCount 3 = .ok (.istore_n 2, 1) := by decide +kernel
theorem dX0_busyCount_4 : decode cX0_busyCount 4 = .ok (.iload_n 2, 1) := by decide +kernel
theorem dX0_busyCount_5 : decode cX0_busyCount 5 = .ok (.aload_n 0, 1) := by decide +kernel
theorem dX0_busyCount_6 : decode cX0_busyCount 6 = .ok (.getfield 11, 3) := by decide +kernel
theorem dX0_busyCount_9 : decode cX0_busyCount 9 = .ok (.arraylength, 1) := by decide +kernel
theorem dX0_busyCount_10 : decode cX0_busyCount 10 = .ok (.if_icmp .ge 21, 3) := by decide +kernel
theorem dX0_busyCount_13 : decode cX0_busyCount 13 = .ok (.aload_n 0, 1) := by decide +kernel
theorem dX0_busyCount_14 : decode cX0_busyCount 14 = .ok (.getfield 11, 3) := by decide +kernel
theorem dX0_busyCount_17 : decode cX0_busyCount 17 = .ok (.iload_n 2, 1) := by decide +kernel
theorem dX0_busyCount_18 : decode cX0_busyCount 18 = .ok (.aaload, 1) := by decide +kernel
theorem dX0_busyCount_19 : decode cX0_busyCount 19 = .ok (.ifnull 6, 3) := by decide +kernel
theorem dX0_busyCount_22 : decode cX0_busyCount 22 = .ok (.iinc 1 1, 3) := by decide +kernel
theorem dX0_busyCount_25 : decode cX0_busyCount 25 = .ok (.iinc 2 1, 3) := by decide +kernel
theorem dX0_busyCount_28 : decode cX0_busyCount 28 = .ok (.goto (-24), 3) := by decide +kernel
theorem dX0_busyCount_31 : decode cX0_busyCount 31 = .ok (.iload_n 1, 1) := by decide +kernel
theorem dX0_busyCount_32 : decode cX0_busyCount 32 = .ok (.ireturn, 1) := by decide +kernel
theorem dX0_canTake_0 : decode cX0_canTake 0 = .ok (.iconst 0, 1) := by decide +kernel
theorem dX0_canTake_1 : decode cX0_canTake 1 = .ok (.istore_n 3, 1) := by decide +kernel
theorem dX0_canTake_2 : decode cX0_canTake 2 = .ok (.iconst 0, 1) := by decide +kernel
theorem dX0_canTake_3 : decode cX0_canTake 3 = .ok (.istore 4, 2) := by decide +kernel
theorem dX0_canTake_5 : decode cX0_canTake 5 = .ok (.iload 4, 2) := by decide +kernel
theorem dX0_canTake_7 : decode cX0_canTake 7 = .ok (.aload_n 0, 1) := by decide +kernel
theorem dX0_canTake_8 : decode cX0_canTake 8 = .ok (.getfield 11, 3) := by decide +kernel
theorem dX0_canTake_11 : decode cX0_canTake 11 = .ok (.arraylength, 1) := by decide +kernel
theorem dX0_canTake_12 : decode cX0_canTake 12 = .ok (.if_icmp .ge 76, 3) := by decide +kernel
theorem dX0_canTake_15 : decode cX0_canTake 15 = .ok (.aload_n 0, 1) := by decide +kernel
theorem dX0_canTake_16 : decode cX0_canTake 16 = .ok (.getfield 11, 3) := by decide +kernel
theorem dX0_canTake_19 : decode cX0_canTake 19 = .ok (.iload 4, 2) := by decide +kernel
theorem dX0_canTake_21 : decode cX0_canTake 21 = .ok (.aaload, 1) := by decide +kernel
theorem dX0_canTake_22 : decode cX0_canTake 22 = .ok (.astore 5, 2) := by decide +kernel
theorem dX0_canTake_24 : decode cX0_canTake 24 = .ok (.aload 5, 2) := by decide +kernel
theorem dX0_canTake_26 : decode cX0_canTake 26 = .ok (.ifnull 12, 3) := by decide +kernel
theorem dX0_canTake_29 : decode cX0_canTake 29 = .ok (.aload_n 1, 1) := by decide +kernel
theorem dX0_canTake_30 : decode cX0_canTake 30 = .ok (.aload 5, 2) := by decide +kernel
theorem dX0_canTake_32 : decode cX0_canTake 32 = .ok (.invokevirtual 25, 3) := by decide +kernel
theorem dX0_canTake_35 : decode cX0_canTake 35 = .ok (.ifCond .eq 7, 3) := by decide +kernel
theorem dX0_canTake_38 : decode cX0_canTake 38 = .ok (.iconst 1, 1) := by decide +kernel
theorem dX0_canTake_39 : decode cX0_canTake 39 = .ok (.goto 4, 3) := by decide +kernel
theorem dX0_canTake_42 : decode cX0_canTake 42 = .ok (.iconst 0, 1) := by decide +kernel
theorem dX0_canTake_43 : decode cX0_canTake 43 = .ok (.istore 6, 2) := by decide +kernel
theorem dX0_canTake_45 : decode cX0_canTake 45 = .ok (.aload 5, 2) := by decide +kernel
theorem dX0_canTake_47 : decode cX0_canTake 47 = .ok (.ifnull 19, 3) := by decide +kernel
theorem dX0_canTake_50 : decode cX0_canTake 50 = .ok (.iload 6, 2) := by decide +kernel
theorem dX0_canTake_52 : decode cX0_canTake 52 = .ok (.ifCond .ne 14, 3) := by decide +kernel
theorem dX0_canTake_55 : decode cX0_canTake 55 = .ok (.aload 5, 2) := by decide +kernel
theorem dX0_canTake_57 : decode cX0_canTake 57 = .ok (.iload_n 2, 1) := by decide +kernel
theorem dX0_canTake_58 : decode cX0_canTake 58 = .ok (.invokevirtual 21, 3) := by decide +kernel
theorem dX0_canTake_61 : decode cX0_canTake 61 = .ok (.ifCond .eq 5, 3) := by decide +kernel
theorem dX0_canTake_64 : decode cX0_canTake 64 = .ok (.iconst 0, 1) := by decide +kernel
theorem dX0_canTake_65 : decode cX0_canTake 65 = .ok (.ireturn, 1) := by decide +kernel
theorem dX0_canTake_66 : decode cX0_canTake 66 = .ok (.iload 6, 2) := by decide +kernel
theorem dX0_canTake_68 : decode cX0_canTake 68 = .ok (.ifCond .eq 14, 3) := by decide +kernel
theorem dX0_canTake_71 : decode cX0_canTake 71 = .ok (.aload_n 1, 1) := by decide +kernel
theorem dX0_canTake_72 : decode cX0_canTake 72 = .ok (.iload 4, 2) := by decide +kernel
theorem dX0_canTake_74 : decode cX0_canTake 74 = .ok (.invokevirtual 29, 3) := by decide +kernel
theorem dX0_canTake_77 : decode cX0_canTake 77 = .ok (.ifCond .eq 5, 3) := by decide +kernel
theorem dX0_canTake_80 : decode cX0_canTake 80 = .ok (.iconst 1, 1) := by decide +kernel
theorem dX0_canTake_81 : decode cX0_canTake 81 = .ok (.istore_n 3, 1) := by decide +kernel
theorem dX0_canTake_82 : decode cX0_canTake 82 = .ok (.iinc 4 1, 3) := by decide +kernel
theorem dX0_canTake_85 : decode cX0_canTake 85 = .ok (.goto (-80), 3) := by decide +kernel
theorem dX0_canTake_88 : decode cX0_canTake 88 = .ok (.iload_n 2, 1) := by decide +kernel
theorem dX0_canTake_89 : decode cX0_canTake 89 = .ok (.ifCond .eq 11, 3) := by decide +kernel
theorem dX0_canTake_92 : decode cX0_canTake 92 = .ok (.iload_n 3, 1) := by decide +kernel
theorem dX0_canTake_93 : decode cX0_canTake 93 = .ok (.ifCond .eq 7, 3) := by decide +kernel
theorem dX0_canTake_96 : decode cX0_canTake 96 = .ok (.iconst 1, 1) := by decide +kernel
theorem dX0_canTake_97 : decode cX0_canTake 97 = .ok (.goto 4, 3) := by decide +kernel
theorem dX0_canTake_100 : decode cX0_canTake 100 = .ok (.iconst 0, 1) := by decide +kernel
theorem dX0_canTake_101 : decode cX0_canTake 101 = .ok (.ireturn, 1) := by decide +kernel
theorem dX0_freeFor_0 : decode cX0_freeFor 0 = .ok (.iconst 0, 1) := by decide +kernel
theorem dX0_freeFor_1 : decode cX0_freeFor 1 = .ok (.istore_n 2, 1) := by decide +kernel
theorem dX0_freeFor_2 : decode cX0_freeFor 2 = .ok (.iload_n 2, 1) := by decide +kernel
theorem dX0_freeFor_3 : decode cX0_freeFor 3 = .ok (.aload_n 0, 1) := by decide +kernel
theorem dX0_freeFor_4 : decode cX0_freeFor 4 = .ok (.getfield 11, 3) := by decide +kernel
theorem dX0_freeFor_7 : decode cX0_freeFor 7 = .ok (.arraylength, 1) := by decide +kernel
theorem dX0_freeFor_8 : decode cX0_freeFor 8 = .ok (.if_icmp .ge 28, 3) := by decide +kernel
theorem dX0_freeFor_11 : decode cX0_freeFor 11 = .ok (.aload_n 0, 1) := by decide +kernel
theorem dX0_freeFor_12 : decode cX0_freeFor 12 = .ok (.getfield 11, 3) := by decide +kernel
theorem dX0_freeFor_15 : decode cX0_freeFor 15 = .ok (.iload_n 2, 1) := by decide +kernel
theorem dX0_freeFor_16 : decode cX0_freeFor 16 = .ok (.aaload, 1) := by decide +kernel
theorem dX0_freeFor_17 : decode cX0_freeFor 17 = .ok (.ifnonnull 13, 3) := by decide +kernel
theorem dX0_freeFor_20 : decode cX0_freeFor 20 = .ok (.aload_n 1, 1) := by decide +kernel
theorem dX0_freeFor_21 : decode cX0_freeFor 21 = .ok (.iload_n 2, 1) := by decide +kernel
theorem dX0_freeFor_22 : decode cX0_freeFor 22 = .ok (.invokevirtual 29, 3) := by decide +kernel
theorem dX0_freeFor_25 : decode cX0_freeFor 25 = .ok (.ifCond .eq 5, 3) := by decide +kernel
theorem dX0_freeFor_28 : decode cX0_freeFor 28 = .ok (.iload_n 2, 1) := by decide +kernel
theorem dX0_freeFor_29 : decode cX0_freeFor 29 = .ok (.ireturn, 1) := by decide +kernel
theorem dX0_freeFor_30 : decode cX0_freeFor 30 = .ok (.iinc 2 1, 3) := by decide +kernel
theorem dX0_freeFor_33 : decode cX0_freeFor 33 = .ok (.goto (-31), 3) := by decide +kernel
theorem dX0_freeFor_36 : decode cX0_freeFor 36 = .ok (.iconst (-1), 1) := by decide +kernel
theorem dX0_freeFor_37 : decode cX0_freeFor 37 = .ok (.ireturn, 1) := by decide +kernel
theorem dX0_leastUrgentFor_0 : decode cX0_leastUrgentFor 0 = .ok (.aconst_null, 1) := by decide +kernel
theorem dX0_leastUrgentFor_1 : decode cX0_leastUrgentFor 1 = .ok (.astore_n 2, 1) := by decide +kernel
theorem dX0_leastUrgentFor_2 : decode cX0_leastUrgentFor 2 = .ok (.iconst 0, 1) := by decide +kernel
theorem dX0_leastUrgentFor_3 : decode cX0_leastUrgentFor 3 = .ok (.istore_n 3, 1) := by decide +kernel
theorem dX0_leastUrgentFor_4 : decode cX0_leastUrgentFor 4 = .ok (.iload_n 3, 1) := by decide +kernel
theorem dX0_leastUrgentFor_5 : decode cX0_leastUrgentFor 5 = .ok (.aload_n 0, 1) := by decide +kernel
theorem dX0_leastUrgentFor_6 : decode cX0_leastUrgentFor 6 = .ok (.getfield 11, 3) := by decide +kernel
theorem dX0_leastUrgentFor_9 : decode cX0_leastUrgentFor 9 = .ok (.arraylength, 1) := by decide +kernel
theorem dX0_leastUrgentFor_10 : decode cX0_leastUrgentFor 10 = .ok (.if_icmp .ge 46, 3) := by decide +kernel
theorem dX0_leastUrgentFor_13 : decode cX0_leastUrgentFor 13 = .ok (.aload_n 0, 1) := by decide +kernel
theorem dX0_leastUrgentFor_14 : decode cX0_leastUrgentFor 14 = .ok (.getfield 11, 3) := by decide +kernel
theorem dX0_leastUrgentFor_17 : decode cX0_leastUrgentFor 17 = .ok (.iload_n 3, 1) := by decide +kernel
theorem dX0_leastUrgentFor_18 : decode cX0_leastUrgentFor 18 = .ok (.aaload, 1) := by decide +kernel
theorem dX0_leastUrgentFor_19 : decode cX0_leastUrgentFor 19 = .ok (.astore 4, 2) := by decide +kernel
theorem dX0_leastUrgentFor_21 : decode cX0_leastUrgentFor 21 = .ok (.aload 4, 2) := by decide +kernel
theorem dX0_leastUrgentFor_23 : decode cX0_leastUrgentFor 23 = .ok (.ifnull 27, 3) := by decide +kernel
theorem dX0_leastUrgentFor_26 : decode cX0_leastUrgentFor 26 = .ok (.aload_n 1, 1) := by decide +kernel
theorem dX0_leastUrgentFor_27 : decode cX0_leastUrgentFor 27 = .ok (.iload_n 3, 1) := by decide +kernel
theorem dX0_leastUrgentFor_28 : decode cX0_leastUrgentFor 28 = .ok (.invokevirtual 29, 3) := by decide +kernel
theorem dX0_leastUrgentFor_31 : decode cX0_leastUrgentFor 31 = .ok (.ifCond .eq 19, 3) := by decide +kernel
theorem dX0_leastUrgentFor_34 : decode cX0_leastUrgentFor 34 = .ok (.aload_n 2, 1) := by decide +kernel
theorem dX0_leastUrgentFor_35 : decode cX0_leastUrgentFor 35 = .ok (.ifnull 12, 3) := by decide +kernel
theorem dX0_leastUrgentFor_38 : decode cX0_leastUrgentFor 38 = .ok (.aload 4, 2) := by decide +kernel
theorem dX0_leastUrgentFor_40 : decode cX0_leastUrgentFor 40 = .ok (.aload_n 2, 1) := by decide +kernel
theorem dX0_leastUrgentFor_41 : decode cX0_leastUrgentFor 41 = .ok (.invokestatic 32, 3) := by decide +kernel
theorem dX0_leastUrgentFor_44 : decode cX0_leastUrgentFor 44 = .ok (.ifCond .eq 6, 3) := by decide +kernel
theorem dX0_leastUrgentFor_47 : decode cX0_leastUrgentFor 47 = .ok (.aload 4, 2) := by decide +kernel
theorem dX0_leastUrgentFor_49 : decode cX0_leastUrgentFor 49 = .ok (.astore_n 2, 1) := by decide +kernel
theorem dX0_leastUrgentFor_50 : decode cX0_leastUrgentFor 50 = .ok (.iinc 3 1, 3) := by decide +kernel
theorem dX0_leastUrgentFor_53 : decode cX0_leastUrgentFor 53 = .ok (.goto (-49), 3) := by decide +kernel
theorem dX0_leastUrgentFor_56 : decode cX0_leastUrgentFor 56 = .ok (.aload_n 2, 1) := by decide +kernel
theorem dX0_leastUrgentFor_57 : decode cX0_leastUrgentFor 57 = .ok (.areturn, 1) := by decide +kernel
theorem dX0_isEasierToInterrupt_0 : decode cX0_isEasierToInterrupt 0 = .ok (.aload_n 0, 1) := by decide +kernel
theorem dX0_isEasierToInterrupt_1 : decode cX0_isEasierToInterrupt 1 = .ok (.getfield 36, 3) := by decide +kernel
theorem dX0_isEasierToInterrupt_4 : decode cX0_isEasierToInterrupt 4 = .ok (.aload_n 1, 1) := by decide +kernel
theorem dX0_isEasierToInterrupt_5 : decode cX0_isEasierToInterrupt 5 = .ok (.getfield 36, 3) := by decide +kernel
theorem dX0_isEasierToInterrupt_8 : decode cX0_isEasierToInterrupt 8 = .ok (.if_icmp .eq 22, 3) := by decide +kernel
theorem dX0_isEasierToInterrupt_11 : decode cX0_isEasierToInterrupt 11 = .ok (.aload_n 0, 1) := by decide +kernel
theorem dX0_isEasierToInterrupt_12 : decode cX0_isEasierToInterrupt 12 = .ok (.getfield 36, 3) := by decide +kernel
theorem dX0_isEasierToInterrupt_15 : decode cX0_isEasierToInterrupt 15 = .ok (.aload_n 1, 1) := by decide +kernel
theorem dX0_isEasierToInterrupt_16 : decode cX0_isEasierToInterrupt 16 = .ok (.getfield 36, 3) := by decide +kernel
theorem dX0_isEasierToInterrupt_19 : decode cX0_isEasierToInterrupt 19 = .ok (.if_icmp .ge 7, 3) := by decide +kernel
theorem dX0_isEasierToInterrupt_22 : decode cX0_isEasierToInterrupt 22 = .ok (.iconst 1, 1) := by decide +kernel
theorem dX0_isEasierToInterrupt_23 : decode cX0_isEasierToInterrupt 23 = .ok (.goto 23, 3) := by decide +kernel
theorem dX0_isEasierToInterrupt_26 : decode cX0_isEasierToInterrupt 26 = .ok (.iconst 0, 1) := by decide +kernel
theorem dX0_isEasierToInterrupt_27 : decode cX0_isEasierToInterrupt 27 = .ok (.goto 19, 3) := by decide +kernel
theorem dX0_isEasierToInterrupt_30 : decode cX0_isEasierToInterrupt 30 = .ok (.aload_n 0, 1) := by decide +kernel
theorem dX0_isEasierToInterrupt_31 : decode cX0_isEasierToInterrupt 31 = .ok (.getfield 40, 3) := by decide +kernel
theorem dX0_isEasierToInterrupt_34 : decode cX0_isEasierToInterrupt 34 = .ok (.aload_n 1, 1) := by decide +kernel
theorem dX0_isEasierToInterrupt_35 : decode cX0_isEasierToInterrupt 35 = .ok (.getfield 40, 3) := by decide +kernel
theorem dX0_isEasierToInterrupt_38 : decode cX0_isEasierToInterrupt 38 = .ok (.if_icmp .le 7, 3) := by decide +kernel
theorem dX0_isEasierToInterrupt_41 : decode cX0_isEasierToInterrupt 41 = .ok (.iconst 1, 1) := by decide +kernel
theorem dX0_isEasierToInterrupt_42 : decode cX0_isEasierToInterrupt 42 = .ok (.goto 4, 3) := by decide +kernel
theorem dX0_isEasierToInterrupt_45 : decode cX0_isEasierToInterrupt 45 = .ok (.iconst 0, 1) := by decide +kernel
theorem dX0_isEasierToInterrupt_46 : decode cX0_isEasierToInterrupt 46 = .ok (.ireturn, 1) := by decide +kernel
theorem dX0_give_0 : decode cX0_give 0 = .ok (.iload_n 1, 1) := by decide +kernel
theorem dX0_give_1 : decode cX0_give 1 = .ok (.ifCond .lt 24, 3) := by decide +kernel
theorem dX0_give_4 : decode cX0_give 4 = .ok (.iload_n 1, 1) := by decide +kernel
theorem dX0_give_5 : decode cX0_give 5 = .ok (.aload_n 0, 1) := by decide +kernel
theorem dX0_give_6 : decode cX0_give 6 = .ok (.getfield 11, 3) := by decide +kernel
theorem dX0_give_9 : decode cX0_give 9 = .ok (.arraylength, 1) := by decide +kernel
theorem dX0_give_10 : decode cX0_give 10 = .ok (.if_icmp .ge 15, 3) := by decide +kernel
theorem dX0_give_13 : decode cX0_give 13 = .ok (.aload_n 0, 1) := by decide +kernel
theorem dX0_give_14 : decode cX0_give 14 = .ok (.getfield 11, 3) := by decide +kernel
theorem dX0_give_17 : decode cX0_give 17 = .ok (.iload_n 1, 1) := by decide +kernel
theorem dX0_give_18 : decode cX0_give 18 = .ok (.aload_n 2, 1) := by decide +kernel
theorem dX0_give_19 : decode cX0_give 19 = .ok (.aastore, 1) := by decide +kernel
theorem dX0_give_20 : decode cX0_give 20 = .ok (.aload_n 2, 1) := by decide +kernel
theorem dX0_give_21 : decode cX0_give 21 = .ok (.iload_n 1, 1) := by decide +kernel
theorem dX0_give_22 : decode cX0_give 22 = .ok (.putfield 43, 3) := by decide +kernel
theorem dX0_give_25 : decode cX0_give 25 = .ok (.return_, 1) := by decide +kernel
theorem dX0_free_0 : decode cX0_free 0 = .ok (.aload_n 1, 1) := by decide +kernel
theorem dX0_free_1 : decode cX0_free 1 = .ok (.getfield 43, 3) := by decide +kernel
theorem dX0_free_4 : decode cX0_free 4 = .ok (.istore_n 2, 1) := by decide +kernel
theorem dX0_free_5 : decode cX0_free 5 = .ok (.iload_n 2, 1) := by decide +kernel
theorem dX0_free_6 : decode cX0_free 6 = .ok (.ifCond .lt 19, 3) := by decide +kernel
theorem dX0_free_9 : decode cX0_free 9 = .ok (.iload_n 2, 1) := by decide +kernel
theorem dX0_free_10 : decode cX0_free 10 = .ok (.aload_n 0, 1) := by decide +kernel
theorem dX0_free_11 : decode cX0_free 11 = .ok (.getfield 11, 3) := by decide +kernel
theorem dX0_free_14 : decode cX0_free 14 = .ok (.arraylength, 1) := by decide +kernel
theorem dX0_free_15 : decode cX0_free 15 = .ok (.if_icmp .ge 10, 3) := by decide +kernel
theorem dX0_free_18 : decode cX0_free 18 = .ok (.aload_n 0, 1) := by decide +kernel
theorem dX0_free_19 : decode cX0_free 19 = .ok (.getfield 11, 3) := by decide +kernel
theorem dX0_free_22 : decode cX0_free 22 = .ok (.iload_n 2, 1) := by decide +kernel
theorem dX0_free_23 : decode cX0_free 23 = .ok (.aconst_null, 1) := by decide +kernel
theorem dX0_free_24 : decode cX0_free 24 = .ok (.aastore, 1) := by decide +kernel
theorem dX0_free_25 : decode cX0_free 25 = .ok (.aload_n 1, 1) := by decide +kernel
theorem dX0_free_26 : decode cX0_free 26 = .ok (.iconst (-1), 1) := by decide +kernel
theorem dX0_free_27 : decode cX0_free 27 = .ok (.putfield 43, 3) := by decide +kernel
theorem dX0_free_30 : decode cX0_free 30 = .ok (.aload_n 1, 1) := by decide +kernel
theorem dX0_free_31 : decode cX0_free 31 = .ok (.iconst 0, 1) := by decide +kernel
theorem dX0_free_32 : decode cX0_free 32 = .ok (.putfield 46, 3) := by decide +kernel
theorem dX0_free_35 : decode cX0_free 35 = .ok (.return_, 1) := by decide +kernel
theorem dX0_countMinute_0 : decode cX0_countMinute 0 = .ok (.iload_n 1, 1) := by decide +kernel
theorem dX0_countMinute_1 : decode cX0_countMinute 1 = .ok (.ifCond .lt 22, 3) := by decide +kernel
theorem dX0_countMinute_4 : decode cX0_countMinute 4 = .ok (.iload_n 1, 1) := by decide +kernel
theorem dX0_countMinute_5 : decode cX0_countMinute 5 = .ok (.aload_n 0, 1) := by decide +kernel
theorem dX0_countMinute_6 : decode cX0_countMinute 6 = .ok (.getfield 17, 3) := by decide +kernel
theorem dX0_countMinute_9 : decode cX0_countMinute 9 = .ok (.arraylength, 1) := by decide +kernel
theorem dX0_countMinute_10 : decode cX0_countMinute 10 = .ok (.if_icmp .ge 13, 3) := by decide +kernel
theorem dX0_countMinute_13 : decode cX0_countMinute 13 = .ok (.aload_n 0, 1) := by decide +kernel
theorem dX0_countMinute_14 : decode cX0_countMinute 14 = .ok (.getfield 17, 3) := by decide +kernel
theorem dX0_countMinute_17 : decode cX0_countMinute 17 = .ok (.iload_n 1, 1) := by decide +kernel
theorem dX0_countMinute_18 : decode cX0_countMinute 18 = .ok (.dup2, 1) := by decide +kernel
theorem dX0_countMinute_19 : decode cX0_countMinute 19 = .ok (.iaload, 1) := by decide +kernel
theorem dX0_countMinute_20 : decode cX0_countMinute 20 = .ok (.iconst 1, 1) := by decide +kernel
theorem dX0_countMinute_21 : decode cX0_countMinute 21 = .ok (.iadd, 1) := by decide +kernel
theorem dX0_countMinute_22 : decode cX0_countMinute 22 = .ok (.iastore, 1) := by decide +kernel
theorem dX0_countMinute_23 : decode cX0_countMinute 23 = .ok (.return_, 1) := by decide +kernel
theorem dX0_minutesSpoken_0 : decode cX0_minutesSpoken 0 = .ok (.iload_n 1, 1) := by decide +kernel
theorem dX0_minutesSpoken_1 : decode cX0_minutesSpoken 1 = .ok (.ifCond .lt 21, 3) := by decide +kernel
theorem dX0_minutesSpoken_4 : decode cX0_minutesSpoken 4 = .ok (.iload_n 1, 1) := by decide +kernel
theorem dX0_minutesSpoken_5 : decode cX0_minutesSpoken 5 = .ok (.aload_n 0, 1) := by decide +kernel
theorem dX0_minutesSpoken_6 : decode cX0_minutesSpoken 6 = .ok (.getfield 17, 3) := by decide +kernel
theorem dX0_minutesSpoken_9 : decode cX0_minutesSpoken 9 = .ok (.arraylength, 1) := by decide +kernel
theorem dX0_minutesSpoken_10 : decode cX0_minutesSpoken 10 = .ok (.if_icmp .ge 12, 3) := by decide +kernel
theorem dX0_minutesSpoken_13 : decode cX0_minutesSpoken 13 = .ok (.aload_n 0, 1) := by decide +kernel
theorem dX0_minutesSpoken_14 : decode cX0_minutesSpoken 14 = .ok (.getfield 17, 3) := by decide +kernel
theorem dX0_minutesSpoken_17 : decode cX0_minutesSpoken 17 = .ok (.iload_n 1, 1) := by decide +kernel
theorem dX0_minutesSpoken_18 : decode cX0_minutesSpoken 18 = .ok (.iaload, 1) := by decide +kernel
theorem dX0_minutesSpoken_19 : decode cX0_minutesSpoken 19 = .ok (.goto 4, 3) := by decide +kernel
theorem dX0_minutesSpoken_22 : decode cX0_minutesSpoken 22 = .ok (.iconst 0, 1) := by decide +kernel
theorem dX0_minutesSpoken_23 : decode cX0_minutesSpoken 23 = .ok (.ireturn, 1) := by decide +kernel
theorem dX0_areAllAllowed_0 : decode cX0_areAllAllowed 0 = .ok (.iconst 0, 1) := by decide +kernel
theorem dX0_areAllAllowed_1 : decode cX0_areAllAllowed 1 = .ok (.istore_n 1, 1) := by decide +kernel
theorem dX0_areAllAllowed_2 : decode cX0_areAllAllowed 2 = .ok (.iload_n 1, 1) := by decide +kernel
theorem dX0_areAllAllowed_3 : decode cX0_areAllAllowed 3 = .ok (.aload_n 0, 1) := by decide +kernel
theorem dX0_areAllAllowed_4 : decode cX0_areAllAllowed 4 = .ok (.getfield 11, 3) := by decide +kernel
theorem dX0_areAllAllowed_7 : decode cX0_areAllAllowed 7 = .ok (.arraylength, 1) := by decide +kernel
theorem dX0_areAllAllowed_8 : decode cX0_areAllAllowed 8 = .ok (.if_icmp .ge 33, 3) := by decide +kernel
theorem dX0_areAllAllowed_11 : decode cX0_areAllAllowed 11 = .ok (.aload_n 0, 1) := by decide +kernel
theorem dX0_areAllAllowed_12 : decode cX0_areAllAllowed 12 = .ok (.getfield 11, 3) := by decide +kernel
theorem dX0_areAllAllowed_15 : decode cX0_areAllAllowed 15 = .ok (.iload_n 1, 1) := by decide +kernel
theorem dX0_areAllAllowed_16 : decode cX0_areAllAllowed 16 = .ok (.aaload, 1) := by decide +kernel
theorem dX0_areAllAllowed_17 : decode cX0_areAllAllowed 17 = .ok (.ifnull 18, 3) := by decide +kernel
theorem dX0_areAllAllowed_20 : decode cX0_areAllAllowed 20 = .ok (.aload_n 0, 1) := by decide +kernel
theorem dX0_areAllAllowed_21 : decode cX0_areAllAllowed 21 = .ok (.getfield 11, 3) := by decide +kernel
theorem dX0_areAllAllowed_24 : decode cX0_areAllAllowed 24 = .ok (.iload_n 1, 1) := by decide +kernel
theorem dX0_areAllAllowed_25 : decode cX0_areAllAllowed 25 = .ok (.aaload, 1) := by decide +kernel
theorem dX0_areAllAllowed_26 : decode cX0_areAllAllowed 26 = .ok (.iload_n 1, 1) := by decide +kernel
theorem dX0_areAllAllowed_27 : decode cX0_areAllAllowed 27 = .ok (.invokevirtual 29, 3) := by decide +kernel
theorem dX0_areAllAllowed_30 : decode cX0_areAllAllowed 30 = .ok (.ifCond .ne 5, 3) := by decide +kernel
theorem dX0_areAllAllowed_33 : decode cX0_areAllAllowed 33 = .ok (.iconst 0, 1) := by decide +kernel
theorem dX0_areAllAllowed_34 : decode cX0_areAllAllowed 34 = .ok (.ireturn, 1) := by decide +kernel
theorem dX0_areAllAllowed_35 : decode cX0_areAllAllowed 35 = .ok (.iinc 1 1, 3) := by decide +kernel
theorem dX0_areAllAllowed_38 : decode cX0_areAllAllowed 38 = .ok (.goto (-36), 3) := by decide +kernel
theorem dX0_areAllAllowed_41 : decode cX0_areAllAllowed 41 = .ok (.iconst 1, 1) := by decide +kernel
theorem dX0_areAllAllowed_42 : decode cX0_areAllAllowed 42 = .ok (.ireturn, 1) := by decide +kernel
theorem dX0_shareNoStation_0 : decode cX0_shareNoStation 0 = .ok (.iconst 0, 1) := by decide +kernel
theorem dX0_shareNoStation_1 : decode cX0_shareNoStation 1 = .ok (.istore_n 1, 1) := by decide +kernel
theorem dX0_shareNoStation_2 : decode cX0_shareNoStation 2 = .ok (.iconst 0, 1) := by decide +kernel
theorem dX0_shareNoStation_3 : decode cX0_shareNoStation 3 = .ok (.istore_n 2, 1) := by decide +kernel
theorem dX0_shareNoStation_4 : decode cX0_shareNoStation 4 = .ok (.iload_n 2, 1) := by decide +kernel
theorem dX0_shareNoStation_5 : decode cX0_shareNoStation 5 = .ok (.aload_n 0, 1) := by decide +kernel
theorem dX0_shareNoStation_6 : decode cX0_shareNoStation 6 = .ok (.getfield 11, 3) := by decide +kernel
theorem dX0_shareNoStation_9 : decode cX0_shareNoStation 9 = .ok (.arraylength, 1) := by decide +kernel
theorem dX0_shareNoStation_10 : decode cX0_shareNoStation 10 = .ok (.if_icmp .ge 37, 3) := by decide +kernel
theorem dX0_shareNoStation_13 : decode cX0_shareNoStation 13 = .ok (.aload_n 0, 1) := by decide +kernel
theorem dX0_shareNoStation_14 : decode cX0_shareNoStation 14 = .ok (.getfield 11, 3) := by decide +kernel
theorem dX0_shareNoStation_17 : decode cX0_shareNoStation 17 = .ok (.iload_n 2, 1) := by decide +kernel
theorem dX0_shareNoStation_18 : decode cX0_shareNoStation 18 = .ok (.aaload, 1) := by decide +kernel
theorem dX0_shareNoStation_19 : decode cX0_shareNoStation 19 = .ok (.astore_n 3, 1) := by decide +kernel
theorem dX0_shareNoStation_20 : decode cX0_shareNoStation 20 = .ok (.aload_n 3, 1) := by decide +kernel
theorem dX0_shareNoStation_21 : decode cX0_shareNoStation 21 = .ok (.ifnull 20, 3) := by decide +kernel
theorem dX0_shareNoStation_24 : decode cX0_shareNoStation 24 = .ok (.aload_n 3, 1) := by decide +kernel
theorem dX0_shareNoStation_25 : decode cX0_shareNoStation 25 = .ok (.iload_n 1, 1) := by decide +kernel
theorem dX0_shareNoStation_26 : decode cX0_shareNoStation 26 = .ok (.invokevirtual 21, 3) := by decide +kernel
theorem dX0_shareNoStation_29 : decode cX0_shareNoStation 29 = .ok (.ifCond .eq 5, 3) := by decide +kernel
theorem dX0_shareNoStation_32 : decode cX0_shareNoStation 32 = .ok (.iconst 0, 1) := by decide +kernel
theorem dX0_shareNoStation_33 : decode cX0_shareNoStation 33 = .ok (.ireturn, 1) := by decide +kernel
theorem dX0_shareNoStation_34 : decode cX0_shareNoStation 34 = .ok (.iload_n 1, 1) := by decide +kernel
theorem dX0_shareNoStation_35 : decode cX0_shareNoStation 35 = .ok (.aload_n 3, 1) := by decide +kernel
theorem dX0_shareNoStation_36 : decode cX0_shareNoStation 36 = .ok (.getfield 46, 3) := by decide +kernel
theorem dX0_shareNoStation_39 : decode cX0_shareNoStation 39 = .ok (.ior, 1) := by decide +kernel
theorem dX0_shareNoStation_40 : decode cX0_shareNoStation 40 = .ok (.istore_n 1, 1) := by decide +kernel
theorem dX0_shareNoStation_41 : decode cX0_shareNoStation 41 = .ok (.iinc 2 1, 3) := by decide +kernel
theorem dX0_shareNoStation_44 : decode cX0_shareNoStation 44 = .ok (.goto (-40), 3) := by decide +kernel
theorem dX0_shareNoStation_47 : decode cX0_shareNoStation 47 = .ok (.iconst 1, 1) := by decide +kernel
theorem dX0_shareNoStation_48 : decode cX0_shareNoStation 48 = .ok (.ireturn, 1) := by decide +kernel
theorem dX1_init_0 : decode cX1_init 0 = .ok (.aload_n 0, 1) := by decide +kernel
theorem dX1_init_1 : decode cX1_init 1 = .ok (.invokespecial 3, 3) := by decide +kernel
theorem dX1_init_4 : decode cX1_init 4 = .ok (.aload_n 0, 1) := by decide +kernel
theorem dX1_init_5 : decode cX1_init 5 = .ok (.bipush 10, 2) := by decide +kernel
theorem dX1_init_7 : decode cX1_init 7 = .ok (.anewarray 9, 3) := by decide +kernel
theorem dX1_init_10 : decode cX1_init 10 = .ok (.putfield 11, 3) := by decide +kernel
theorem dX1_init_13 : decode cX1_init 13 = .ok (.aload_n 0, 1) := by decide +kernel
theorem dX1_init_14 : decode cX1_init 14 = .ok (.bipush 10, 2) := by decide +kernel
theorem dX1_init_16 : decode cX1_init 16 = .ok (.newarray .int, 2) := by decide +kernel
theorem dX1_init_18 : decode cX1_init 18 = .ok (.putfield 17, 3) := by decide +kernel
theorem dX1_init_21 : decode cX1_init 21 = .ok (.aload_n 0, 1) := by decide +kernel
theorem dX1_init_22 : decode cX1_init 22 = .ok (.bipush 10, 2) := by decide +kernel
theorem dX1_init_24 : decode cX1_init 24 = .ok (.newarray .int, 2) := by decide +kernel
theorem dX1_init_26 : decode cX1_init 26 = .ok (.putfield 21, 3) := by decide +kernel
theorem dX1_init_29 : decode cX1_init 29 = .ok (.aload_n 0, 1) := by decide +kernel
theorem dX1_init_30 : decode cX1_init 30 = .ok (.bipush 10, 2) := by decide +kernel
theorem dX1_init_32 : decode cX1_init 32 = .ok (.newarray .int, 2) := by decide +kernel
theorem dX1_init_34 : decode cX1_init 34 = .ok (.putfield 24, 3) := by decide +kernel
theorem dX1_init_37 : decode cX1_init 37 = .ok (.aload_n 0, 1) := by decide +kernel
theorem dX1_init_38 : decode cX1_init 38 = .ok (.bipush 10, 2) := by decide +kernel
theorem dX1_init_40 : decode cX1_init 40 = .ok (.bipush 10, 2) := by decide +kernel
theorem dX1_init_42 : decode cX1_init 42 = .ok (.multianewarray 27 2, 4) := by decide +kernel
theorem dX1_init_46 : decode cX1_init 46 = .ok (.putfield 29, 3) := by decide +kernel
theorem dX1_init_49 : decode cX1_init 49 = .ok (.iconst 0, 1) := by decide +kernel
theorem dX1_init_50 : decode cX1_init 50 = .ok (.istore_n 1, 1) := by decide +kernel
theorem dX1_init_51 : decode cX1_init 51 = .ok (.iload_n 1, 1) := by decide +kernel
theorem dX1_init_52 : decode cX1_init 52 = .ok (.aload_n 0, 1) := by decide +kernel
theorem dX1_init_53 : decode cX1_init 53 = .ok (.getfield 11, 3) := by decide +kernel
theorem dX1_init_56 : decode cX1_init 56 = .ok (.arraylength, 1) := by decide +kernel
theorem dX1_init_57 : decode cX1_init 57 = .ok (.if_icmp .ge 22, 3) := by decide +kernel
theorem dX1_init_60 : decode cX1_init 60 = .ok (.aload_n 0, 1) := by decide +kernel
theorem dX1_init_61 : decode cX1_init 61 = .ok (.getfield 11, 3) := by decide +kernel
theorem dX1_init_64 : decode cX1_init 64 = .ok (.iload_n 1, 1) := by decide +kernel
theorem dX1_init_65 : decode cX1_init 65 = .ok (.new 9, 3) := by decide +kernel
theorem dX1_init_68 : decode cX1_init 68 = .ok (.dup, 1) := by decide +kernel
theorem dX1_init_69 : decode cX1_init 69 = .ok (.invokespecial 32, 3) := by decide +kernel
theorem dX1_init_72 : decode cX1_init 72 = .ok (.aastore, 1) := by decide +kernel
theorem dX1_init_73 : decode cX1_init 73 = .ok (.iinc 1 1, 3) := by decide +kernel
theorem dX1_init_76 : decode cX1_init 76 = .ok (.goto (-25), 3) := by decide +kernel
theorem dX1_init_79 : decode cX1_init 79 = .ok (.return_, 1) := by decide +kernel
theorem dX1_isFull_0 : decode cX1_isFull 0 = .ok (.aload_n 0, 1) := by decide +kernel
theorem dX1_isFull_1 : decode cX1_isFull 1 = .ok (.getfield 33, 3) := by decide +kernel
theorem dX1_isFull_4 : decode cX1_isFull 4 = .ok (.aload_n 0, 1) := by decide +kernel
theorem dX1_isFull_5 : decode cX1_isFull 5 = .ok (.getfield 11, 3) := by decide +kernel
theorem dX1_isFull_8 : decode cX1_isFull 8 = .ok (.arraylength, 1) := by decide +kernel
theorem dX1_isFull_9 : decode cX1_isFull 9 = .ok (.if_icmp .lt 7, 3) := by decide +kernel
theorem dX1_isFull_12 : decode cX1_isFull 12 = .ok (.iconst 1, 1) := by decide +kernel
theorem dX1_isFull_13 : decode cX1_isFull 13 = .ok (.goto 4, 3) := by decide +kernel
theorem dX1_isFull_16 : decode cX1_isFull 16 = .ok (.iconst 0, 1) := by decide +kernel
theorem dX1_isFull_17 : decode cX1_isFull 17 = .ok (.ireturn, 1) := by decide +kernel
theorem dX1_add_0 : decode cX1_add 0 = .ok (.aload_n 0, 1) := by decide +kernel
theorem dX1_add_1 : decode cX1_add 1 = .ok (.getfield 33, 3) := by decide +kernel
theorem dX1_add_4 : decode cX1_add 4 = .ok (.istore_n 3, 1) := by decide +kernel
theorem dX1_add_5 : decode cX1_add 5 = .ok (.iload_n 3, 1) := by decide +kernel
theorem dX1_add_6 : decode cX1_add 6 = .ok (.aload_n 0, 1) := by decide +kernel
theorem dX1_add_7 : decode cX1_add 7 = .ok (.getfield 11, 3) := by decide +kernel
theorem dX1_add_10 : decode cX1_add 10 = .ok (.arraylength, 1) := by decide +kernel
theorem dX1_add_11 : decode cX1_add 11 = .ok (.if_icmp .ge 43, 3) := by decide +kernel
theorem dX1_add_14 : decode cX1_add 14 = .ok (.aload_n 0, 1) := by decide +kernel
theorem dX1_add_15 : decode cX1_add 15 = .ok (.getfield 11, 3) := by decide +kernel
theorem dX1_add_18 : decode cX1_add 18 = .ok (.iload_n 3, 1) := by decide +kernel
theorem dX1_add_19 : decode cX1_add 19 = .ok (.aaload, 1) := by decide +kernel
theorem dX1_add_20 : decode cX1_add 20 = .ok (.iload_n 1, 1) := by decide +kernel
theorem dX1_add_21 : decode cX1_add 21 = .ok (.putfield 37, 3) := by decide +kernel
theorem dX1_add_24 : decode cX1_add 24 = .ok (.aload_n 0, 1) := by decide +kernel
theorem dX1_add_25 : decode cX1_add 25 = .ok (.getfield 11, 3) := by decide +kernel
theorem dX1_add_28 : decode cX1_add 28 = .ok (.iload_n 3, 1) := by decide +kernel
theorem dX1_add_29 : decode cX1_add 29 = .ok (.aaload, 1) := by decide +kernel
theorem dX1_add_30 : decode cX1_add 30 = .ok (.iload_n 2, 1) := by decide +kernel
theorem dX1_add_31 : decode cX1_add 31 = .ok (.putfield 40, 3) := by decide +kernel
theorem dX1_add_34 : decode cX1_add 34 = .ok (.aload_n 0, 1) := by decide +kernel
theorem dX1_add_35 : decode cX1_add 35 = .ok (.getfield 11, 3) := by decide +kernel
theorem dX1_add_38 : decode cX1_add 38 = .ok (.iload_n 3, 1) := by decide +kernel
theorem dX1_add_39 : decode cX1_add 39 = .ok (.aaload, 1) := by decide +kernel
theorem dX1_add_40 : decode cX1_add 40 = .ok (.iconst 1, 1) := by decide +kernel
theorem dX1_add_41 : decode cX1_add 41 = .ok (.putfield 43, 3) := by decide +kernel
theorem dX1_add_44 : decode cX1_add 44 = .ok (.aload_n 0, 1) := by decide +kernel
theorem dX1_add_45 : decode cX1_add 45 = .ok (.dup, 1) := by decide +kernel
theorem dX1_add_46 : decode cX1_add 46 = .ok (.getfield 33, 3) := by decide +kernel
theorem dX1_add_49 : decode cX1_add 49 = .ok (.iconst 1, 1) := by decide +kernel
theorem dX1_add_50 : decode cX1_add 50 = .ok (.iadd, 1) := by decide +kernel
theorem dX1_add_51 : decode cX1_add 51 = .ok (.putfield 33, 3) := by decide +kernel
theorem dX1_add_54 : decode cX1_add 54 = .ok (.iload_n 3, 1) := by decide +kernel
theorem dX1_add_55 : decode cX1_add 55 = .ok (.ireturn, 1) := by decide +kernel
theorem dX1_numbered_0 : decode cX1_numbered 0 = .ok (.iload_n 1, 1) := by decide +kernel
theorem dX1_numbered_1 : decode cX1_numbered 1 = .ok (.ifCond .lt 20, 3) := by decide +kernel
theorem dX1_numbered_4 : decode cX1_numbered 4 = .ok (.iload_n 1, 1) := by decide +kernel
theorem dX1_numbered_5 : decode cX1_numbered 5 = .ok (.aload_n 0, 1) := by decide +kernel
theorem dX1_numbered_6 : decode cX1_numbered 6 = .ok (.getfield 33, 3) := by decide +kernel
theorem dX1_numbered_9 : decode cX1_numbered 9 = .ok (.if_icmp .ge 12, 3) := by decide +kernel
theorem dX1_numbered_12 : decode cX1_numbered 12 = .ok (.iload_n 1, 1) := by decide +kernel
theorem dX1_numbered_13 : decode cX1_numbered 13 = .ok (.aload_n 0, 1) := by decide +kernel
theorem dX1_numbered_14 : decode cX1_numbered 14 = .ok (.getfield 11, 3) := by decide +kernel
theorem dX1_numbered_17 : decode cX1_numbered 17 = .ok (.arraylength, 1) := by decide +kernel
theorem dX1_numbered_18 : decode cX1_numbered 18 = .ok (.if_icmp .lt 13, 3) := by decide +kernel
theorem dX1_numbered_21 : decode cX1_numbered 21 = .ok (.new 47, 3) := by decide +kernel
theorem dX1_numbered_24 : decode cX1_numbered 24 = .ok (.dup, 1) := by decide +kernel
theorem dX1_numbered_25 : decode cX1_numbered 25 = .ok (.ldc 49, 2) := by decide +kernel
theorem dX1_numbered_27 : decode cX1_numbered 27 = .ok (.invokespecial 51, 3) := by decide +kernel
theorem dX1_numbered_30 : decode cX1_numbered 30 = .ok (.athrow, 1) := by decide +kernel
theorem dX1_numbered_31 : decode cX1_numbered 31 = .ok (.aload_n 0, 1) := by decide +kernel
theorem dX1_numbered_32 : decode cX1_numbered 32 = .ok (.getfield 11, 3) := by decide +kernel
theorem dX1_numbered_35 : decode cX1_numbered 35 = .ok (.iload_n 1, 1) := by decide +kernel
theorem dX1_numbered_36 : decode cX1_numbered 36 = .ok (.aaload, 1) := by decide +kernel
theorem dX1_numbered_37 : decode cX1_numbered 37 = .ok (.areturn, 1) := by decide +kernel
theorem dX1_areLinked_0 : decode cX1_areLinked 0 = .ok (.aload_n 0, 1) := by decide +kernel
theorem dX1_areLinked_1 : decode cX1_areLinked 1 = .ok (.iload_n 1, 1) := by decide +kernel
theorem dX1_areLinked_2 : decode cX1_areLinked 2 = .ok (.invokevirtual 54, 3) := by decide +kernel
theorem dX1_areLinked_5 : decode cX1_areLinked 5 = .ok (.aload_n 0, 1) := by decide +kernel
theorem dX1_areLinked_6 : decode cX1_areLinked 6 = .ok (.iload_n 2, 1) := by decide +kernel
theorem dX1_areLinked_7 : decode cX1_areLinked 7 = .ok (.invokevirtual 54, 3) := by decide +kernel
theorem dX1_areLinked_10 : decode cX1_areLinked 10 = .ok (.invokevirtual 58, 3) := by decide +kernel
theorem dX1_areLinked_13 : decode cX1_areLinked 13 = .ok (.ireturn, 1) := by decide +kernel
theorem dX1_stepsBetween_0 : decode cX1_stepsBetween 0 = .ok (.aload_n 0, 1) := by decide +kernel
theorem dX1_stepsBetween_1 : decode cX1_stepsBetween 1 = .ok (.iload_n 2, 1) := by decide +kernel
theorem dX1_stepsBetween_2 : decode cX1_stepsBetween 2 = .ok (.invokevirtual 62, 3) := by decide +kernel
theorem dX1_stepsBetween_5 : decode cX1_stepsBetween 5 = .ok (.iload_n 1, 1) := by decide +kernel
theorem dX1_stepsBetween_6 : decode cX1_stepsBetween 6 = .ok (.ifCond .lt 21, 3) := by decide +kernel
theorem dX1_stepsBetween_9 : decode cX1_stepsBetween 9 = .ok (.iload_n 1, 1) := by decide +kernel
theorem dX1_stepsBetween_10 : decode cX1_stepsBetween 10 = .ok (.aload_n 0, 1) := by decide +kernel
theorem dX1_stepsBetween_11 : decode cX1_stepsBetween 11 = .ok (.getfield 17, 3) := by decide +kernel
theorem dX1_stepsBetween_14 : decode cX1_stepsBetween 14 = .ok (.arraylength, 1) := by decide +kernel
theorem dX1_stepsBetween_15 : decode cX1_stepsBetween 15 = .ok (.if_icmp .ge 12, 3) := by decide +kernel
theorem dX1_stepsBetween_18 : decode cX1_stepsBetween 18 = .ok (.aload_n 0, 1) := by decide +kernel
theorem dX1_stepsBetween_19 : decode cX1_stepsBetween 19 = .ok (.getfield 17, 3) := by decide +kernel
theorem dX1_stepsBetween_22 : decode cX1_stepsBetween 22 = .ok (.iload_n 1, 1) := by decide +kernel
theorem dX1_stepsBetween_23 : decode cX1_stepsBetween 23 = .ok (.iaload, 1) := by decide +kernel
theorem dX1_stepsBetween_24 : decode cX1_stepsBetween 24 = .ok (.goto 6, 3) := by decide +kernel
theorem dX1_stepsBetween_27 : decode cX1_stepsBetween 27 = .ok (.sipush 1000, 3) := by decide +kernel
theorem dX1_stepsBetween_30 : decode cX1_stepsBetween 30 = .ok (.ireturn, 1) := by decide +kernel
theorem dX1_countStepsTo_0 : decode cX1_countStepsTo 0 = .ok (.iconst 0, 1) := by decide +kernel
theorem dX1_countStepsTo_1 : decode cX1_countStepsTo 1 = .ok (.istore_n 2, 1) := by decide +kernel
theorem dX1_countStepsTo_2 : decode cX1_countStepsTo 2 = .ok (.iload_n 2, 1) := by decide +kernel
theorem dX1_countStepsTo_3 : decode cX1_countStepsTo 3 = .ok (.aload_n 0, 1) := by decide +kernel
theorem dX1_countStepsTo_4 : decode cX1_countStepsTo 4 = .ok (.getfield 17, 3) := by decide +kernel
theorem dX1_countStepsTo_7 : decode cX1_countStepsTo 7 = .ok (.arraylength, 1) := by decide +kernel
theorem dX1_countStepsTo_8 : decode cX1_countStepsTo 8 = .ok (.if_icmp .ge 27, 3) := by decide +kernel
theorem dX1_countStepsTo_11 : decode cX1_countStepsTo 11 = .ok (.aload_n 0, 1) := by decide +kernel
theorem dX1_countStepsTo_12 : decode cX1_countStepsTo 12 = .ok (.getfield 17, 3) := by decide +kernel
theorem dX1_countStepsTo_15 : decode cX1_countStepsTo 15 = .ok (.iload_n 2, 1) := by decide +kernel
theorem dX1_countStepsTo_16 : decode cX1_countStepsTo 16 = .ok (.iload_n 2, 1) := by decide +kernel
theorem dX1_countStepsTo_17 : decode cX1_countStepsTo 17 = .ok (.iload_n 1, 1) := by decide +kernel
theorem dX1_countStepsTo_18 : decode cX1_countStepsTo 18 = .ok (.if_icmp .ne 7, 3) := by decide +kernel
theorem dX1_countStepsTo_21 : decode cX1_countStepsTo 21 = .ok (.iconst 0, 1) := by decide +kernel
theorem dX1_countStepsTo_22 : decode cX1_countStepsTo 22 = .ok (.goto 6, 3) := by decide +kernel
theorem dX1_countStepsTo_25 : decode cX1_countStepsTo 25 = .ok (.sipush 1000, 3) := by decide +kernel
theorem dX1_countStepsTo_28 : decode cX1_countStepsTo 28 = .ok (.iastore, 1) := by decide +kernel
theorem dX1_countStepsTo_29 : decode cX1_countStepsTo 29 = .ok (.iinc 2 1, 3) := by decide +kernel
theorem dX1_countStepsTo_32 : decode cX1_countStepsTo 32 = .ok (.goto (-30), 3) := by decide +kernel
theorem dX1_countStepsTo_35 : decode cX1_countStepsTo 35 = .ok (.aload_n 0, 1) := by decide +kernel
theorem dX1_countStepsTo_36 : decode cX1_countStepsTo 36 = .ok (.getfield 21, 3) := by decide +kernel
theorem dX1_countStepsTo_39 : decode cX1_countStepsTo 39 = .ok (.iconst 0, 1) := by decide +kernel
theorem dX1_countStepsTo_40 : decode cX1_countStepsTo 40 = .ok (.iload_n 1, 1) := by decide +kernel
theorem dX1_countStepsTo_41 : decode cX1_countStepsTo 41 = .ok (.iastore, 1) := by decide +kernel
theorem dX1_countStepsTo_42 : decode cX1_countStepsTo 42 = .ok (.iconst 1, 1) := by decide +kernel
theorem dX1_countStepsTo_43 : decode cX1_countStepsTo 43 = .ok (.istore_n 2, 1) := by decide +kernel
theorem dX1_countStepsTo_44 : decode cX1_countStepsTo 44 = .ok (.iconst 0, 1) := by decide +kernel
theorem dX1_countStepsTo_45 : decode cX1_countStepsTo 45 = .ok (.istore_n 3, 1) := by decide +kernel
theorem dX1_countStepsTo_46 : decode cX1_countStepsTo 46 = .ok (.iload_n 3, 1) := by decide +kernel
theorem dX1_countStepsTo_47 : decode cX1_countStepsTo 47 = .ok (.iload_n 2, 1) := by decide +kernel
theorem dX1_countStepsTo_48 : decode cX1_countStepsTo 48 = .ok (.if_icmp .ge 116, 3) := by decide +kernel
theorem dX1_countStepsTo_51 : decode cX1_countStepsTo 51 = .ok (.iload_n 3, 1) := by decide +kernel
theorem dX1_countStepsTo_52 : decode cX1_countStepsTo 52 = .ok (.aload_n 0, 1) := by decide +kernel
theorem dX1_countStepsTo_53 : decode cX1_countStepsTo 53 = .ok (.getfield 21, 3) := by decide +kernel
theorem dX1_countStepsTo_56 : decode cX1_countStepsTo 56 = .ok (.arraylength, 1) := by decide +kernel
theorem dX1_countStepsTo_57 : decode cX1_countStepsTo 57 = .ok (.if_icmp .ge 107, 3) := by decide +kernel
theorem dX1_countStepsTo_60 : decode cX1_countStepsTo 60 = .ok (.aload_n 0, 1) := by decide +kernel
theorem dX1_countStepsTo_61 : decode cX1_countStepsTo 61 = .ok (.getfield 21, 3) := by decide +kernel
theorem dX1_countStepsTo_64 : decode cX1_countStepsTo 64 = .ok (.iload_n 3, 1) := by decide +kernel
theorem dX1_countStepsTo_65 : decode cX1_countStepsTo 65 = .ok (.iaload, 1) := by decide +kernel
theorem dX1_countStepsTo_66 : decode cX1_countStepsTo 66 = .ok (.istore 4, 2) := by decide +kernel
theorem dX1_countStepsTo_68 : decode cX1_countStepsTo 68 = .ok (.aload_n 0, 1) := by decide +kernel
theorem dX1_countStepsTo_69 : decode cX1_countStepsTo 69 = .ok (.iload 4, 2) := by decide +kernel
theorem dX1_countStepsTo_71 : decode cX1_countStepsTo 71 = .ok (.invokevirtual 54, 3) := by decide +kernel
theorem dX1_countStepsTo_74 : decode cX1_countStepsTo 74 = .ok (.astore 5, 2) := by decide +kernel
theorem dX1_countStepsTo_76 : decode cX1_countStepsTo 76 = .ok (.iconst 0, 1) := by decide +kernel
theorem dX1_countStepsTo_77 : decode cX1_countStepsTo 77 = .ok (.istore 6, 2) := by decide +kernel
theorem dX1_countStepsTo_79 : decode cX1_countStepsTo 79 = .ok (.iload 6, 2) := by decide +kernel
theorem dX1_countStepsTo_81 : decode cX1_countStepsTo 81 = .ok (.aload_n 0, 1) := by decide +kernel
theorem dX1_countStepsTo_82 : decode cX1_countStepsTo 82 = .ok (.getfield 33, 3) := by decide +kernel
theorem dX1_countStepsTo_85 : decode cX1_countStepsTo 85 = .ok (.if_icmp .ge 73, 3) := by decide +kernel
theorem dX1_countStepsTo_88 : decode cX1_countStepsTo 88 = .ok (.iload_n 2, 1) := by decide +kernel
theorem dX1_countStepsTo_89 : decode cX1_countStepsTo 89 = .ok (.aload_n 0, 1) := by decide +kernel
theorem dX1_countStepsTo_90 : decode cX1_countStepsTo 90 = .ok (.getfield 21, 3) := by decide +kernel
theorem dX1_countStepsTo_93 : decode cX1_countStepsTo 93 = .ok (.arraylength, 1) := by decide +kernel
theorem dX1_countStepsTo_94 : decode cX1_countStepsTo 94 = .ok (.if_icmp .ge 64, 3) := by decide +kernel
theorem dX1_countStepsTo_97 : decode cX1_countStepsTo 97 = .ok (.aload_n 0, 1) := by decide +kernel
theorem dX1_countStepsTo_98 : decode cX1_countStepsTo 98 = .ok (.getfield 17, 3) := by decide +kernel
theorem dX1_countStepsTo_101 : decode cX1_countStepsTo 101 = .ok (.iload 6, 2) := by decide +kernel
theorem dX1_countStepsTo_103 : decode cX1_countStepsTo 103 = .ok (.iaload, 1) := by decide +kernel
theorem dX1_countStepsTo_104 : decode cX1_countStepsTo 104 = .ok (.sipush 1000, 3) := by decide +kernel
theorem dX1_countStepsTo_107 : decode cX1_countStepsTo 107 = .ok (.if_icmp .ne 45, 3) := by decide +kernel
theorem dX1_countStepsTo_110 : decode cX1_countStepsTo 110 = .ok (.aload 5, 2) := by decide +kernel
theorem dX1_countStepsTo_112 : decode cX1_countStepsTo 112 = .ok (.aload_n 0, 1) := by decide +kernel
theorem dX1_countStepsTo_113 : decode cX1_countStepsTo 113 = .ok (.getfield 11, 3) := by decide +kernel
theorem dX1_countStepsTo_116 : decode cX1_countStepsTo 116 = .ok (.iload 6, 2) := by decide +kernel
theorem dX1_countStepsTo_118 : decode cX1_countStepsTo 118 = .ok (.aaload, 1) := by decide +kernel
theorem dX1_countStepsTo_119 : decode cX1_countStepsTo 119 = .ok (.invokevirtual 58, 3) := by decide +kernel
theorem dX1_countStepsTo_122 : decode cX1_countStepsTo 122 = .ok (.ifCond .eq 30, 3) := by decide +kernel
theorem dX1_countStepsTo_125 : decode cX1_countStepsTo 125 = .ok (.aload_n 0, 1) := by decide +kernel
theorem dX1_countStepsTo_126 : decode cX1_countStepsTo 126 = .ok (.getfield 17, 3) := by decide +kernel
theorem dX1_countStepsTo_129 : decode cX1_countStepsTo 129 = .ok (.iload 6, 2) := by decide +kernel
theorem dX1_countStepsTo_131 : decode cX1_countStepsTo 131 = .ok (.aload_n 0, 1) := by decide +kernel
theorem dX1_countStepsTo_132 : decode cX1_countStepsTo 132 = .ok (.getfield 17, 3) := by decide +kernel
theorem dX1_countStepsTo_135 : decode cX1_countStepsTo 135 = .ok (.iload 4, 2) := by decide +kernel
theorem dX1_countStepsTo_137 : decode cX1_countStepsTo 137 = .ok (.iaload, 1) := by decide +kernel
theorem dX1_countStepsTo_138 : decode cX1_countStepsTo 138 = .ok (.iconst 1, 1) := by decide +kernel
theorem dX1_countStepsTo_139 : decode cX1_countStepsTo 139 = .ok (.iadd, 1) := by decide +kernel
theorem dX1_countStepsTo_140 : decode cX1_countStepsTo 140 = .ok (.iastore, 1) := by decide +kernel
theorem dX1_countStepsTo_141 : decode cX1_countStepsTo 141 = .ok (.aload_n 0, 1) := by decide +kernel
theorem dX1_countStepsTo_142 : decode cX1_countStepsTo 142 = .ok (.getfield 21, 3) := by decide +kernel
theorem dX1_countStepsTo_145 : decode cX1_countStepsTo 145 = .ok (.iload_n 2, 1) := by decide +kernel
theorem dX1_countStepsTo_146 : decode cX1_countStepsTo 146 = .ok (.iload 6, 2) := by decide +kernel
theorem dX1_countStepsTo_148 : decode cX1_countStepsTo 148 = .ok (.iastore, 1) := by decide +kernel
theorem dX1_countStepsTo_149 : decode cX1_countStepsTo 149 = .ok (.iinc 2 1, 3) := by decide +kernel
theorem dX1_countStepsTo_152 : decode cX1_countStepsTo 152 = .ok (.iinc 6 1, 3) := by decide +kernel
theorem dX1_countStepsTo_155 : decode cX1_countStepsTo 155 = .ok (.goto (-76), 3) := by decide +kernel
theorem dX1_countStepsTo_158 : decode cX1_countStepsTo 158 = .ok (.iinc 3 1, 3) := by decide +kernel
theorem dX1_countStepsTo_161 : decode cX1_countStepsTo 161 = .ok (.goto (-115), 3) := by decide +kernel
theorem dX1_countStepsTo_164 : decode cX1_countStepsTo 164 = .ok (.return_, 1) := by decide +kernel
theorem dX1_findWay_0 : decode cX1_findWay 0 = .ok (.aload_n 0, 1) := by decide +kernel
theorem dX1_findWay_1 : decode cX1_findWay 1 = .ok (.iload_n 2, 1) := by decide +kernel
theorem dX1_findWay_2 : decode cX1_findWay 2 = .ok (.invokevirtual 62, 3) := by decide +kernel
theorem dX1_findWay_5 : decode cX1_findWay 5 = .ok (.iload_n 1, 1) := by decide +kernel
theorem dX1_findWay_6 : decode cX1_findWay 6 = .ok (.istore_n 3, 1) := by decide +kernel
theorem dX1_findWay_7 : decode cX1_findWay 7 = .ok (.iconst 0, 1) := by decide +kernel
theorem dX1_findWay_8 : decode cX1_findWay 8 = .ok (.istore 4, 2) := by decide +kernel
theorem dX1_findWay_10 : decode cX1_findWay 10 = .ok (.iload 4, 2) := by decide +kernel
theorem dX1_findWay_12 : decode cX1_findWay 12 = .ok (.aload_n 0, 1) := by decide +kernel
theorem dX1_findWay_13 : decode cX1_findWay 13 = .ok (.getfield 24, 3) := by decide +kernel
theorem dX1_findWay_16 : decode cX1_findWay 16 = .ok (.arraylength, 1) := by decide +kernel
theorem dX1_findWay_17 : decode cX1_findWay 17 = .ok (.if_icmp .ge 40, 3) := by decide +kernel
theorem dX1_findWay_20 : decode cX1_findWay 20 = .ok (.aload_n 0, 1) := by decide +kernel
theorem dX1_findWay_21 : decode cX1_findWay 21 = .ok (.getfield 24, 3) := by decide +kernel
theorem dX1_findWay_24 : decode cX1_findWay 24 = .ok (.iload 4, 2) := by decide +kernel
theorem dX1_findWay_26 : decode cX1_findWay 26 = .ok (.iload_n 3, 1) := by decide +kernel
theorem dX1_findWay_27 : decode cX1_findWay 27 = .ok (.iastore, 1) := by decide +kernel
theorem dX1_findWay_28 : decode cX1_findWay 28 = .ok (.iload_n 3, 1) := by decide +kernel
theorem dX1_findWay_29 : decode cX1_findWay 29 = .ok (.iload_n 2, 1) := by decide +kernel
theorem dX1_findWay_30 : decode cX1_findWay 30 = .ok (.if_icmp .ne 8, 3) := by decide +kernel
theorem dX1_findWay_33 : decode cX1_findWay 33 = .ok (.iload 4, 2) := by decide +kernel
theorem dX1_findWay_35 : decode cX1_findWay 35 = .ok (.iconst 1, 1) := by decide +kernel
theorem dX1_findWay_36 : decode cX1_findWay 36 = .ok (.iadd, 1) := by decide +kernel
theorem dX1_findWay_37 : decode cX1_findWay 37 = .ok (.ireturn, 1) := by decide +kernel
theorem dX1_findWay_38 : decode cX1_findWay 38 = .ok (.aload_n 0, 1) := by decide +kernel
theorem dX1_findWay_39 : decode cX1_findWay 39 = .ok (.iload_n 3, 1) := by decide +kernel
theorem dX1_findWay_40 : decode cX1_findWay 40 = .ok (.invokevirtual 66, 3) := by decide +kernel
theorem dX1_findWay_43 : decode cX1_findWay 43 = .ok (.istore_n 3, 1) := by decide +kernel
theorem dX1_findWay_44 : decode cX1_findWay 44 = .ok (.iload_n 3, 1) := by decide +kernel
theorem dX1_findWay_45 : decode cX1_findWay 45 = .ok (.iconst (-1), 1) := by decide +kernel
theorem dX1_findWay_46 : decode cX1_findWay 46 = .ok (.if_icmp .ne 5, 3) := by decide +kernel
theorem dX1_findWay_49 : decode cX1_findWay 49 = .ok (.iconst 0, 1) := by decide +kernel
theorem dX1_findWay_50 : decode cX1_findWay 50 = .ok (.ireturn, 1) := by decide +kernel
theorem dX1_findWay_51 : decode cX1_findWay 51 = .ok (.iinc 4 1, 3) := by decide +kernel
theorem dX1_findWay_54 : decode cX1_findWay 54 = .ok (.goto (-44), 3) := by decide +kernel
theorem dX1_findWay_57 : decode cX1_findWay 57 = .ok (.iconst 0, 1) := by decide +kernel
theorem dX1_findWay_58 : decode cX1_findWay 58 = .ok (.ireturn, 1) := by decide +kernel
theorem dX1_nextOnWay_0 : decode cX1_nextOnWay 0 = .ok (.aload_n 0, 1) := by decide +kernel
theorem dX1_nextOnWay_1 : decode cX1_nextOnWay 1 = .ok (.iload_n 1, 1) := by decide +kernel
theorem dX1_nextOnWay_2 : decode cX1_nextOnWay 2 = .ok (.invokevirtual 54, 3) := by decide +kernel
theorem dX1_nextOnWay_5 : decode cX1_nextOnWay 5 = .ok (.astore_n 2, 1) := by decide +kernel
theorem dX1_nextOnWay_6 : decode cX1_nextOnWay 6 = .ok (.iconst 0, 1) := by decide +kernel
theorem dX1_nextOnWay_7 : decode cX1_nextOnWay 7 = .ok (.istore_n 3, 1) := by decide +kernel
theorem dX1_nextOnWay_8 : decode cX1_nextOnWay 8 = .ok (.iload_n 3, 1) := by decide +kernel
theorem dX1_nextOnWay_9 : decode cX1_nextOnWay 9 = .ok (.aload_n 0, 1) := by decide +kernel
theorem dX1_nextOnWay_10 : decode cX1_nextOnWay 10 = .ok (.getfield 33, 3) := by decide +kernel
theorem dX1_nextOnWay_13 : decode cX1_nextOnWay 13 = .ok (.if_icmp .ge 41, 3) := by decide +kernel
theorem dX1_nextOnWay_16 : decode cX1_nextOnWay 16 = .ok (.aload_n 0, 1) := by decide +kernel
theorem dX1_nextOnWay_17 : decode cX1_nextOnWay 17 = .ok (.getfield 17, 3) := by decide +kernel
theorem dX1_nextOnWay_20 : decode cX1_nextOnWay 20 = .ok (.iload_n 3, 1) := by decide +kernel
theorem dX1_nextOnWay_21 : decode cX1_nextOnWay 21 = .ok (.iaload, 1) := by decide +kernel
theorem dX1_nextOnWay_22 : decode cX1_nextOnWay 22 = .ok (.aload_n 0, 1) := by decide +kernel
theorem dX1_nextOnWay_23 : decode cX1_nextOnWay 23 = .ok (.getfield 17, 3) := by decide +kernel
theorem dX1_nextOnWay_26 : decode cX1_nextOnWay 26 = .ok (.iload_n 1, 1) := by decide +kernel
theorem dX1_nextOnWay_27 : decode cX1_nextOnWay 27 = .ok (.iaload, 1) := by decide +kernel
theorem dX1_nextOnWay_28 : decode cX1_nextOnWay 28 = .ok (.iconst 1, 1) := by decide +kernel
theorem dX1_nextOnWay_29 : decode cX1_nextOnWay 29 = .ok (.isub, 1) := by decide +kernel
theorem dX1_nextOnWay_30 : decode cX1_nextOnWay 30 = .ok (.if_icmp .ne 18, 3) := by decide +kernel
theorem dX1_nextOnWay_33 : decode cX1_nextOnWay 33 = .ok (.aload_n 2, 1) := by decide +kernel
theorem dX1_nextOnWay_34 : decode cX1_nextOnWay 34 = .ok (.aload_n 0, 1) := by decide +kernel
theorem dX1_nextOnWay_35 : decode cX1_nextOnWay 35 = .ok (.getfield 11, 3) := by decide +kernel
theorem dX1_nextOnWay_38 : decode cX1_nextOnWay 38 = .ok (.iload_n 3, 1) := by decide +kernel
theorem dX1_nextOnWay_39 : decode cX1_nextOnWay 39 = .ok (.aaload, 1) := by decide +kernel
theorem dX1_nextOnWay_40 : decode cX1_nextOnWay 40 = .ok (.invokevirtual 58, 3) := by decide +kernel
theorem dX1_nextOnWay_43 : decode cX1_nextOnWay 43 = .ok (.ifCond .eq 5, 3) := by decide +kernel
theorem dX1_nextOnWay_46 : decode cX1_nextOnWay 46 = .ok (.iload_n 3, 1) := by decide +kernel
theorem dX1_nextOnWay_47 : decode cX1_nextOnWay 47 = .ok (.ireturn, 1) := by decide +kernel
theorem dX1_nextOnWay_48 : decode cX1_nextOnWay 48 = .ok (.iinc 3 1, 3) := by decide +kernel
theorem dX1_nextOnWay_51 : decode cX1_nextOnWay 51 = .ok (.goto (-43), 3) := by decide +kernel
theorem dX1_nextOnWay_54 : decode cX1_nextOnWay 54 = .ok (.iconst (-1), 1) := by decide +kernel
theorem dX1_nextOnWay_55 : decode cX1_nextOnWay 55 = .ok (.ireturn, 1) := by decide +kernel
theorem dX1_stationOfWay_0 : decode cX1_stationOfWay 0 = .ok (.iload_n 1, 1) := by decide +kernel
theorem dX1_stationOfWay_1 : decode cX1_stationOfWay 1 = .ok (.ifCond .lt 21, 3) := by decide +kernel
theorem dX1_stationOfWay_4 : decode cX1_stationOfWay 4 = .ok (.iload_n 1, 1) := by decide +kernel
theorem dX1_stationOfWay_5 : decode cX1_stationOfWay 5 = .ok (.aload_n 0, 1) := by decide +kernel
theorem dX1_stationOfWay_6 : decode cX1_stationOfWay 6 = .ok (.getfield 24, 3) := by decide +kernel
theorem dX1_stationOfWay_9 : decode cX1_stationOfWay 9 = .ok (.arraylength, 1) := by decide +kernel
theorem dX1_stationOfWay_10 : decode cX1_stationOfWay 10 = .ok (.if_icmp .ge 12, 3) := by decide +kernel
theorem dX1_stationOfWay_13 : decode cX1_stationOfWay 13 = .ok (.aload_n 0, 1) := by decide +kernel
theorem dX1_stationOfWay_14 : decode cX1_stationOfWay 14 = .ok (.getfield 24, 3) := by decide +kernel
theorem dX1_stationOfWay_17 : decode cX1_stationOfWay 17 = .ok (.iload_n 1, 1) := by decide +kernel
theorem dX1_stationOfWay_18 : decode cX1_stationOfWay 18 = .ok (.iaload, 1) := by decide +kernel
theorem dX1_stationOfWay_19 : decode cX1_stationOfWay 19 = .ok (.goto 4, 3) := by decide +kernel
theorem dX1_stationOfWay_22 : decode cX1_stationOfWay 22 = .ok (.iconst 0, 1) := by decide +kernel
theorem dX1_stationOfWay_23 : decode cX1_stationOfWay 23 = .ok (.ireturn, 1) := by decide +kernel
theorem dX1_membersOfWay_0 : decode cX1_membersOfWay 0 = .ok (.aload_n 0, 1) := by decide +kernel
theorem dX1_membersOfWay_1 : decode cX1_membersOfWay 1 = .ok (.iload_n 1, 1) := by decide +kernel
theorem dX1_membersOfWay_2 : decode cX1_membersOfWay 2 = .ok (.iload_n 2, 1) := by decide +kernel
theorem dX1_membersOfWay_3 : decode cX1_membersOfWay 3 = .ok (.invokevirtual 70, 3) := by decide +kernel
theorem dX1_membersOfWay_6 : decode cX1_membersOfWay 6 = .ok (.istore_n 3, 1) := by decide +kernel
theorem dX1_membersOfWay_7 : decode cX1_membersOfWay 7 = .ok (.iconst 0, 1) := by decide +kernel
theorem dX1_membersOfWay_8 : decode cX1_membersOfWay 8 = .ok (.istore 4, 2) := by decide +kernel
theorem dX1_membersOfWay_10 : decode cX1_membersOfWay 10 = .ok (.iconst 0, 1) := by decide +kernel
theorem dX1_membersOfWay_11 : decode cX1_membersOfWay 11 = .ok (.istore 5, 2) := by decide +kernel
theorem dX1_membersOfWay_13 : decode cX1_membersOfWay 13 = .ok (.iload 5, 2) := by decide +kernel
theorem dX1_membersOfWay_15 : decode cX1_membersOfWay 15 = .ok (.iload_n 3, 1) := by decide +kernel
theorem dX1_membersOfWay_16 : decode cX1_membersOfWay 16 = .ok (.if_icmp .ge 33, 3) := by decide +kernel
theorem dX1_membersOfWay_19 : decode cX1_membersOfWay 19 = .ok (.iload 5, 2) := by decide +kernel
theorem dX1_membersOfWay_21 : decode cX1_membersOfWay 21 = .ok (.aload_n 0, 1) := by decide +kernel
theorem dX1_membersOfWay_22 : decode cX1_membersOfWay 22 = .ok (.getfield 24, 3) := by decide +kernel
theorem dX1_membersOfWay_25 : decode cX1_membersOfWay 25 = .ok (.arraylength, 1) := by decide +kernel
theorem dX1_membersOfWay_26 : decode cX1_membersOfWay 26 = .ok (.if_icmp .ge 23, 3) := by decide +kernel
theorem dX1_membersOfWay_29 : decode cX1_membersOfWay 29 = .ok (.iload 4, 2) := by decide +kernel
theorem dX1_membersOfWay_31 : decode cX1_membersOfWay 31 = .ok (.iconst 1, 1) := by decide +kernel
theorem dX1_membersOfWay_32 : decode cX1_membersOfWay 32 = .ok (.aload_n 0, 1) := by decide +kernel
theorem dX1_membersOfWay_33 : decode cX1_membersOfWay 33 = .ok (.getfield 24, 3) := by decide +kernel
theorem dX1_membersOfWay_36 : decode cX1_membersOfWay 36 = .ok (.iload 5, 2) := by decide +kernel
theorem dX1_membersOfWay_38 : decode cX1_membersOfWay 38 = .ok (.iaload, 1) := by decide +kernel
theorem dX1_membersOfWay_39 : decode cX1_membersOfWay 39 = .ok (.ishl, 1) := by decide +kernel
theorem dX1_membersOfWay_40 : decode cX1_membersOfWay 40 = .ok (.ior, 1) := by decide +kernel
theorem dX1_membersOfWay_41 : decode cX1_membersOfWay 41 = .ok (.istore 4, 2) := by decide +kernel
theorem dX1_membersOfWay_43 : decode cX1_membersOfWay 43 = .ok (.iinc 5 1, 3) := by decide +kernel
theorem dX1_membersOfWay_46 : decode cX1_membersOfWay 46 = .ok (.goto (-33), 3) := by decide +kernel
theorem dX1_membersOfWay_49 : decode cX1_membersOfWay 49 = .ok (.iload 4, 2) := by decide +kernel
theorem dX1_membersOfWay_51 : decode cX1_membersOfWay 51 = .ok (.ireturn, 1) := by decide +kernel
theorem dX1_joinWays_0 : decode cX1_joinWays 0 = .ok (.iconst 0, 1) := by decide +kernel
theorem dX1_joinWays_1 : decode cX1_joinWays 1 = .ok (.istore_n 1, 1) := by decide +kernel
theorem dX1_joinWays_2 : decode cX1_joinWays 2 = .ok (.iload_n 1, 1) := by decide +kernel
theorem dX1_joinWays_3 : decode cX1_joinWays 3 = .ok (.aload_n 0, 1) := by decide +kernel
theorem dX1_joinWays_4 : decode cX1_joinWays 4 = .ok (.getfield 33, 3) := by decide +kernel
theorem dX1_joinWays_7 : decode cX1_joinWays 7 = .ok (.if_icmp .ge 39, 3) := by decide +kernel
theorem dX1_joinWays_10 : decode cX1_joinWays 10 = .ok (.iconst 0, 1) := by decide +kernel
theorem dX1_joinWays_11 : decode cX1_joinWays 11 = .ok (.istore_n 2, 1) := by decide +kernel
theorem dX1_joinWays_12 : decode cX1_joinWays 12 = .ok (.iload_n 2, 1) := by decide +kernel
theorem dX1_joinWays_13 : decode cX1_joinWays 13 = .ok (.aload_n 0, 1) := by decide +kernel
theorem dX1_joinWays_14 : decode cX1_joinWays 14 = .ok (.getfield 33, 3) := by decide +kernel
theorem dX1_joinWays_17 : decode cX1_joinWays 17 = .ok (.if_icmp .ge 23, 3) := by decide +kernel
theorem dX1_joinWays_20 : decode cX1_joinWays 20 = .ok (.aload_n 0, 1) := by decide +kernel
theorem dX1_joinWays_21 : decode cX1_joinWays 21 = .ok (.getfield 29, 3) := by decide +kernel
theorem dX1_joinWays_24 : decode cX1_joinWays 24 = .ok (.iload_n 1, 1) := by decide +kernel
theorem dX1_joinWays_25 : decode cX1_joinWays 25 = .ok (.aaload, 1) := by decide +kernel
theorem dX1_joinWays_26 : decode cX1_joinWays 26 = .ok (.iload_n 2, 1) := by decide +kernel
theorem dX1_joinWays_27 : decode cX1_joinWays 27 = .ok (.aload_n 0, 1) := by decide +kernel
theorem dX1_joinWays_28 : decode cX1_joinWays 28 = .ok (.iload_n 1, 1) := by decide +kernel
theorem dX1_joinWays_29 : decode cX1_joinWays 29 = .ok (.iload_n 2, 1) := by decide +kernel
theorem dX1_joinWays_30 : decode cX1_joinWays 30 = .ok (.invokevirtual 74, 3) := by decide +kernel
theorem dX1_joinWays_33 : decode cX1_joinWays 33 = .ok (.iastore, 1) := by decide +kernel
theorem dX1_joinWays_34 : decode cX1_joinWays 34 = .ok (.iinc 2 1, 3) := by decide +kernel
theorem dX1_joinWays_37 : decode cX1_joinWays 37 = .ok (.goto (-25), 3) := by decide +kernel
theorem dX1_joinWays_40 : decode cX1_joinWays 40 = .ok (.iinc 1 1, 3) := by decide +kernel
theorem dX1_joinWays_43 : decode cX1_joinWays 43 = .ok (.goto (-41), 3) := by decide +kernel
theorem dX1_joinWays_46 : decode cX1_joinWays 46 = .ok (.iconst 0, 1) := by decide +kernel
theorem dX1_joinWays_47 : decode cX1_joinWays 47 = .ok (.istore_n 1, 1) := by decide +kernel
theorem dX1_joinWays_48 : decode cX1_joinWays 48 = .ok (.iload_n 1, 1) := by decide +kernel
theorem dX1_joinWays_49 : decode cX1_joinWays 49 = .ok (.aload_n 0, 1) := by decide +kernel
theorem dX1_joinWays_50 : decode cX1_joinWays 50 = .ok (.getfield 33, 3) := by decide +kernel
theorem dX1_joinWays_53 : decode cX1_joinWays 53 = .ok (.if_icmp .ge 14, 3) := by decide +kernel
theorem dX1_joinWays_56 : decode cX1_joinWays 56 = .ok (.aload_n 0, 1) := by decide +kernel
theorem dX1_joinWays_57 : decode cX1_joinWays 57 = .ok (.iload_n 1, 1) := by decide +kernel
theorem dX1_joinWays_58 : decode cX1_joinWays 58 = .ok (.invokevirtual 77, 3) := by decide +kernel
theorem dX1_joinWays_61 : decode cX1_joinWays 61 = .ok (.iinc 1 1, 3) := by decide +kernel
theorem dX1_joinWays_64 : decode cX1_joinWays 64 = .ok (.goto (-16), 3) := by decide +kernel
theorem dX1_joinWays_67 : decode cX1_joinWays 67 = .ok (.return_, 1) := by decide +kernel
theorem dX1_directSteps_0 : decode cX1_directSteps 0 = .ok (.iload_n 1, 1) := by decide +kernel
theorem dX1_directSteps_1 : decode cX1_directSteps 1 = .ok (.iload_n 2, 1) := by decide +kernel
theorem dX1_directSteps_2 : decode cX1_directSteps 2 = .ok (.if_icmp .ne 5, 3) := by decide +kernel
theorem dX1_directSteps_5 : decode cX1_directSteps 5 = .ok (.iconst 0, 1) := by decide +kernel
theorem dX1_directSteps_6 : decode cX1_directSteps 6 = .ok (.ireturn, 1) := by decide +kernel
theorem dX1_directSteps_7 : decode cX1_directSteps 7 = .ok (.aload_n 0, 1) := by decide +kernel
theorem dX1_directSteps_8 : decode cX1_directSteps 8 = .ok (.iload_n 1, 1) := by decide +kernel
theorem dX1_directSteps_9 : decode cX1_directSteps 9 = .ok (.iload_n 2, 1) := by decide +kernel
theorem dX1_directSteps_10 : decode cX1_directSteps 10 = .ok (.invokevirtual 80, 3) := by decide +kernel
theorem dX1_directSteps_13 : decode cX1_directSteps 13 = .ok (.ifCond .eq 7, 3) := by decide +kernel
theorem dX1_directSteps_16 : decode cX1_directSteps 16 = .ok (.iconst 1, 1) := by decide +kernel
theorem dX1_directSteps_17 : decode cX1_directSteps 17 = .ok (.goto 6, 3) := by decide +kernel
theorem dX1_directSteps_20 : decode cX1_directSteps 20 = .ok (.sipush 1000, 3) := by decide +kernel
theorem dX1_directSteps_23 : decode cX1_directSteps 23 = .ok (.ireturn, 1) := by decide +kernel
theorem dX1_joinOver_0 : decode cX1_joinOver 0 = .ok (.iconst 0, 1) := by decide +kernel
theorem dX1_joinOver_1 : decode cX1_joinOver 1 = .ok (.istore_n 2, 1) := by decide +kernel
theorem dX1_joinOver_2 : decode cX1_joinOver 2 = .ok (.iload_n 2, 1) := by decide +kernel
theorem dX1_joinOver_3 : decode cX1_joinOver 3 = .ok (.aload_n 0, 1) := by decide +kernel
theorem dX1_joinOver_4 : decode cX1_joinOver 4 = .ok (.getfield 33, 3) := by decide +kernel
theorem dX1_joinOver_7 : decode cX1_joinOver 7 = .ok (.if_icmp .ge 61, 3) := by decide +kernel
theorem dX1_joinOver_10 : decode cX1_joinOver 10 = .ok (.iconst 0, 1) := by decide +kernel
theorem dX1_joinOver_11 : decode cX1_joinOver 11 = .ok (.istore_n 3, 1) := by decide +kernel
theorem dX1_joinOver_12 : decode cX1_joinOver 12 = .ok (.iload_n 3, 1) := by decide +kernel
theorem dX1_joinOver_13 : decode cX1_joinOver 13 = .ok (.aload_n 0, 1) := by decide +kernel
theorem dX1_joinOver_14 : decode cX1_joinOver 14 = .ok (.getfield 33, 3) := by decide +kernel
theorem dX1_joinOver_17 : decode cX1_joinOver 17 = .ok (.if_icmp .ge 45, 3) := by decide +kernel
theorem dX1_joinOver_20 : decode cX1_joinOver 20 = .ok (.aload_n 0, 1) := by decide +kernel
theorem dX1_joinOver_21 : decode cX1_joinOver 21 = .ok (.getfield 29, 3) := by decide +kernel
theorem dX1_joinOver_24 : decode cX1_joinOver 24 = .ok (.iload_n 2, 1) := by decide +kernel
theorem dX1_joinOver_25 : decode cX1_joinOver 25 = .ok (.aaload, 1) := by decide +kernel
theorem dX1_joinOver_26 : decode cX1_joinOver 26 = .ok (.iload_n 3, 1) := by decide +kernel
theorem dX1_joinOver_27 : decode cX1_joinOver 27 = .ok (.aload_n 0, 1) := by decide +kernel
theorem dX1_joinOver_28 : decode cX1_joinOver 28 = .ok (.getfield 29, 3) := by decide +kernel
theorem dX1_joinOver_31 : decode cX1_joinOver 31 = .ok (.iload_n 2, 1) := by decide +kernel
theorem dX1_joinOver_32 : decode cX1_joinOver 32 = .ok (.aaload, 1) := by decide +kernel
theorem dX1_joinOver_33 : decode cX1_joinOver 33 = .ok (.iload_n 3, 1) := by decide +kernel
theorem dX1_joinOver_34 : decode cX1_joinOver 34 = .ok (.iaload, 1) := by decide +kernel
theorem dX1_joinOver_35 : decode cX1_joinOver 35 = .ok (.aload_n 0, 1) := by decide +kernel
theorem dX1_joinOver_36 : decode cX1_joinOver 36 = .ok (.getfield 29, 3) := by decide +kernel
theorem dX1_joinOver_39 : decode cX1_joinOver 39 = .ok (.iload_n 2, 1) := by decide +kernel
theorem dX1_joinOver_40 : decode cX1_joinOver 40 = .ok (.aaload, 1) := by decide +kernel
theorem dX1_joinOver_41 : decode cX1_joinOver 41 = .ok (.iload_n 1, 1) := by decide +kernel
theorem dX1_joinOver_42 : decode cX1_joinOver 42 = .ok (.iaload, 1) := by decide +kernel
theorem dX1_joinOver_43 : decode cX1_joinOver 43 = .ok (.aload_n 0, 1) := by decide +kernel
theorem dX1_joinOver_44 : decode cX1_joinOver 44 = .ok (.getfield 29, 3) := by decide +kernel
theorem dX1_joinOver_47 : decode cX1_joinOver 47 = .ok (.iload_n 1, 1) := by decide +kernel
theorem dX1_joinOver_48 : decode cX1_joinOver 48 = .ok (.aaload, 1) := by decide +kernel
theorem dX1_joinOver_49 : decode cX1_joinOver 49 = .ok (.iload_n 3, 1) := by decide +kernel
theorem dX1_joinOver_50 : decode cX1_joinOver 50 = .ok (.iaload, 1) := by decide +kernel
theorem dX1_joinOver_51 : decode cX1_joinOver 51 = .ok (.iadd, 1) := by decide +kernel
theorem dX1_joinOver_52 : decode cX1_joinOver 52 = .ok (.invokestatic 84, 3) := by decide +kernel
theorem dX1_joinOver_55 : decode cX1_joinOver 55 = .ok (.iastore, 1) := by decide +kernel
theorem dX1_joinOver_56 : decode cX1_joinOver 56 = .ok (.iinc 3 1, 3) := by decide +kernel
theorem dX1_joinOver_59 : decode cX1_joinOver 59 = .ok (.goto (-47), 3) := by decide +kernel
theorem dX1_joinOver_62 : decode cX1_joinOver 62 = .ok (.iinc 2 1, 3) := by decide +kernel
theorem dX1_joinOver_65 : decode cX1_joinOver 65 = .ok (.goto (-63), 3) := by decide +kernel
theorem dX1_joinOver_68 : decode cX1_joinOver 68 = .ok (.return_, 1) := by decide +kernel
theorem dX1_joinedSteps_0 : decode cX1_joinedSteps 0 = .ok (.iload_n 1, 1) := by decide +kernel
theorem dX1_joinedSteps_1 : decode cX1_joinedSteps 1 = .ok (.ifCond .lt 29, 3) := by decide +kernel
theorem dX1_joinedSteps_4 : decode cX1_joinedSteps 4 = .ok (.iload_n 1, 1) := by decide +kernel
theorem dX1_joinedSteps_5 : decode cX1_joinedSteps 5 = .ok (.aload_n 0, 1) := by decide +kernel
theorem dX1_joinedSteps_6 : decode cX1_joinedSteps 6 = .ok (.getfield 29, 3) := by decide +kernel
theorem dX1_joinedSteps_9 : decode cX1_joinedSteps 9 = .ok (.arraylength, 1) := by decide +kernel
theorem dX1_joinedSteps_10 : decode cX1_joinedSteps 10 = .ok (.if_icmp .ge 20, 3) := by decide +kernel
theorem dX1_joinedSteps_13 : decode cX1_joinedSteps 13 = .ok (.iload_n 2, 1) := by decide +kernel
theorem dX1_joinedSteps_14 : decode cX1_joinedSteps 14 = .ok (.ifCond .lt 16, 3) := by decide +kernel
theorem dX1_joinedSteps_17 : decode cX1_joinedSteps 17 = .ok (.iload_n 2, 1) := by decide +kernel
theorem dX1_joinedSteps_18 : decode cX1_joinedSteps 18 = .ok (.aload_n 0, 1) := by decide +kernel
theorem dX1_joinedSteps_19 : decode cX1_joinedSteps 19 = .ok (.getfield 29, 3) := by decide +kernel
theorem dX1_joinedSteps_22 : decode cX1_joinedSteps 22 = .ok (.arraylength, 1) := by decide +kernel
theorem dX1_joinedSteps_23 : decode cX1_joinedSteps 23 = .ok (.if_icmp .ge 7, 3) := by decide +kernel
theorem dX1_joinedSteps_26 : decode cX1_joinedSteps 26 = .ok (.iconst 1, 1) := by decide +kernel
theorem dX1_joinedSteps_27 : decode cX1_joinedSteps 27 = .ok (.goto 4, 3) := by decide +kernel
theorem dX1_joinedSteps_30 : decode cX1_joinedSteps 30 = .ok (.iconst 0, 1) := by decide +kernel
theorem dX1_joinedSteps_31 : decode cX1_joinedSteps 31 = .ok (.istore_n 3, 1) := by decide +kernel
theorem dX1_joinedSteps_32 : decode cX1_joinedSteps 32 = .ok (.iload_n 3, 1) := by decide +kernel
theorem dX1_joinedSteps_33 : decode cX1_joinedSteps 33 = .ok (.ifCond .eq 14, 3) := by decide +kernel
theorem dX1_joinedSteps_36 : decode cX1_joinedSteps 36 = .ok (.aload_n 0, 1) := by decide +kernel
theorem dX1_joinedSteps_37 : decode cX1_joinedSteps 37 = .ok (.getfield 29, 3) := by decide +kernel
theorem dX1_joinedSteps_40 : decode cX1_joinedSteps 40 = .ok (.iload_n 1, 1) := by decide +kernel
theorem dX1_joinedSteps_41 : decode cX1_joinedSteps 41 = .ok (.aaload, 1) := by decide +kernel
theorem dX1_joinedSteps_42 : decode cX1_joinedSteps 42 = .ok (.iload_n 2, 1) := by decide +kernel
theorem dX1_joinedSteps_43 : decode cX1_joinedSteps 43 = .ok (.iaload, 1) := by decide +kernel
theorem dX1_joinedSteps_44 : decode cX1_joinedSteps 44 = .ok (.goto 6, 3) := by decide +kernel
theorem dX1_joinedSteps_47 : decode cX1_joinedSteps 47 = .ok (.sipush 1000, 3) := by decide +kernel
theorem dX1_joinedSteps_50 : decode cX1_joinedSteps 50 = .ok (.ireturn, 1) := by decide +kernel
theorem dX1_isSameByJoining_0 : decode cX1_isSameByJoining 0 = .ok (.aload_n 0, 1) := by decide +kernel
theorem dX1_isSameByJoining_1 : decode cX1_isSameByJoining 1 = .ok (.invokevirtual 89, 3) := by decide +kernel
theorem dX1_isSameByJoining_4 : decode cX1_isSameByJoining 4 = .ok (.iconst 0, 1) := by decide +kernel
theorem dX1_isSameByJoining_5 : decode cX1_isSameByJoining 5 = .ok (.istore_n 1, 1) := by decide +kernel
theorem dX1_isSameByJoining_6 : decode cX1_isSameByJoining 6 = .ok (.iload_n 1, 1) := by decide +kernel
theorem dX1_isSameByJoining_7 : decode cX1_isSameByJoining 7 = .ok (.aload_n 0, 1) := by decide +kernel
theorem dX1_isSameByJoining_8 : decode cX1_isSameByJoining 8 = .ok (.getfield 33, 3) := by decide +kernel
theorem dX1_isSameByJoining_11 : decode cX1_isSameByJoining 11 = .ok (.if_icmp .ge 49, 3) := by decide +kernel
theorem dX1_isSameByJoining_14 : decode cX1_isSameByJoining 14 = .ok (.aload_n 0, 1) := by decide +kernel
theorem dX1_isSameByJoining_15 : decode cX1_isSameByJoining 15 = .ok (.iload_n 1, 1) := by decide +kernel
theorem dX1_isSameByJoining_16 : decode cX1_isSameByJoining 16 = .ok (.invokevirtual 62, 3) := by decide +kernel
theorem dX1_isSameByJoining_19 : decode cX1_isSameByJoining 19 = .ok (.iconst 0, 1) := by decide +kernel
theorem dX1_isSameByJoining_20 : decode cX1_isSameByJoining 20 = .ok (.istore_n 2, 1) := by decide +kernel
theorem dX1_isSameByJoining_21 : decode cX1_isSameByJoining 21 = .ok (.iload_n 2, 1) := by decide +kernel
theorem dX1_isSameByJoining_22 : decode cX1_isSameByJoining 22 = .ok (.aload_n 0, 1) := by decide +kernel
theorem dX1_isSameByJoining_23 : decode cX1_isSameByJoining 23 = .ok (.getfield 33, 3) := by decide +kernel
theorem dX1_isSameByJoining_26 : decode cX1_isSameByJoining 26 = .ok (.if_icmp .ge 28, 3) := by decide +kernel
theorem dX1_isSameByJoining_29 : decode cX1_isSameByJoining 29 = .ok (.aload_n 0, 1) := by decide +kernel
theorem dX1_isSameByJoining_30 : decode cX1_isSameByJoining 30 = .ok (.getfield 17, 3) := by decide +kernel
theorem dX1_isSameByJoining_33 : decode cX1_isSameByJoining 33 = .ok (.iload_n 2, 1) := by decide +kernel
theorem dX1_isSameByJoining_34 : decode cX1_isSameByJoining 34 = .ok (.iaload, 1) := by decide +kernel
theorem dX1_isSameByJoining_35 : decode cX1_isSameByJoining 35 = .ok (.aload_n 0, 1) := by decide +kernel
theorem dX1_isSameByJoining_36 : decode cX1_isSameByJoining 36 = .ok (.getfield 29, 3) := by decide +kernel
theorem dX1_isSameByJoining_39 : decode cX1_isSameByJoining 39 = .ok (.iload_n 2, 1) := by decide +kernel
theorem dX1_isSameByJoining_40 : decode cX1_isSameByJoining 40 = .ok (.aaload, 1) := by decide +kernel
theorem dX1_isSameByJoining_41 : decode cX1_isSameByJoining 41 = .ok (.iload_n 1, 1) := by decide +kernel
theorem dX1_isSameByJoining_42 : decode cX1_isSameByJoining 42 = .ok (.iaload, 1) := by decide +kernel
theorem dX1_isSameByJoining_43 : decode cX1_isSameByJoining 43 = .ok (.if_icmp .eq 5, 3) := by decide +kernel
theorem dX1_isSameByJoining_46 : decode cX1_isSameByJoining 46 = .ok (.iconst 0, 1) := by decide +kernel
theorem dX1_isSameByJoining_47 : decode cX1_isSameByJoining 47 = .ok (.ireturn, 1) := by decide +kernel
theorem dX1_isSameByJoining_48 : decode cX1_isSameByJoining 48 = .ok (.iinc 2 1, 3) := by decide +kernel
theorem dX1_isSameByJoining_51 : decode cX1_isSameByJoining 51 = .ok (.goto (-30), 3) := by decide +kernel
theorem dX1_isSameByJoining_54 : decode cX1_isSameByJoining 54 = .ok (.iinc 1 1, 3) := by decide +kernel
theorem dX1_isSameByJoining_57 : decode cX1_isSameByJoining 57 = .ok (.goto (-51), 3) := by decide +kernel
theorem dX1_isSameByJoining_60 : decode cX1_isSameByJoining 60 = .ok (.iconst 1, 1) := by decide +kernel
theorem dX1_isSameByJoining_61 : decode cX1_isSameByJoining 61 = .ok (.ireturn, 1) := by decide +kernel
theorem dX2_init_0 : decode cX2_init 0 = .ok (.aload_n 0, 1) := by decide +kernel
theorem dX2_init_1 : decode cX2_init 1 = .ok (.invokespecial 1, 3) := by decide +kernel
theorem dX2_init_4 : decode cX2_init 4 = .ok (.return_, 1) := by decide +kernel
theorem dX3_init_0 : decode cX3_init 0 = .ok (.aload_n 0, 1) := by decide +kernel
theorem dX3_init_1 : decode cX3_init 1 = .ok (.invokespecial 3, 3) := by decide +kernel
theorem dX3_init_4 : decode cX3_init 4 = .ok (.aload_n 0, 1) := by decide +kernel
theorem dX3_init_5 : decode cX3_init 5 = .ok (.bipush 24, 2) := by decide +kernel
theorem dX3_init_7 : decode cX3_init 7 = .ok (.anewarray 9, 3) := by decide +kernel
theorem dX3_init_10 : decode cX3_init 10 = .ok (.putfield 11, 3) := by decide +kernel
theorem dX3_init_13 : decode cX3_init 13 = .ok (.aload_n 0, 1) := by decide +kernel
theorem dX3_init_14 : decode cX3_init 14 = .ok (.bipush 24, 2) := by decide +kernel
theorem dX3_init_16 : decode cX3_init 16 = .ok (.anewarray 9, 3) := by decide +kernel
theorem dX3_init_19 : decode cX3_init 19 = .ok (.putfield 17, 3) := by decide +kernel
theorem dX3_init_22 : decode cX3_init 22 = .ok (.return_, 1) := by decide +kernel
theorem dX3_join_0 : decode cX3_join 0 = .ok (.aload_n 0, 1) := by decide +kernel
theorem dX3_join_1 : decode cX3_join 1 = .ok (.getfield 20, 3) := by decide +kernel
theorem dX3_join_4 : decode cX3_join 4 = .ok (.aload_n 0, 1) := by decide +kernel
theorem dX3_join_5 : decode cX3_join 5 = .ok (.getfield 11, 3) := by decide +kernel
theorem dX3_join_8 : decode cX3_join 8 = .ok (.arraylength, 1) := by decide +kernel
theorem dX3_join_9 : decode cX3_join 9 = .ok (.if_icmp .ge 15, 3) := by decide +kernel
theorem dX3_join_12 : decode cX3_join 12 = .ok (.aload_n 0, 1) := by decide +kernel
theorem dX3_join_13 : decode cX3_join 13 = .ok (.getfield 20, 3) := by decide +kernel
theorem dX3_join_16 : decode cX3_join 16 = .ok (.aload_n 0, 1) := by decide +kernel
theorem dX3_join_17 : decode cX3_join 17 = .ok (.getfield 17, 3) := by decide +kernel
theorem dX3_join_20 : decode cX3_join 20 = .ok (.arraylength, 1) := by decide +kernel
theorem dX3_join_21 : decode cX3_join 21 = .ok (.if_icmp .lt 4, 3) := by decide +kernel
theorem dX3_join_24 : decode cX3_join 24 = .ok (.return_, 1) := by decide +kernel
theorem dX3_join_25 : decode cX3_join 25 = .ok (.aload_n 0, 1) := by decide +kernel
theorem dX3_join_26 : decode cX3_join 26 = .ok (.getfield 17, 3) := by decide +kernel
theorem dX3_join_29 : decode cX3_join 29 = .ok (.aload_n 0, 1) := by decide +kernel
theorem dX3_join_30 : decode cX3_join 30 = .ok (.getfield 20, 3) := by decide +kernel
theorem dX3_join_33 : decode cX3_join 33 = .ok (.aload_n 1, 1) := by decide +kernel
theorem dX3_join_34 : decode cX3_join 34 = .ok (.aastore, 1) := by decide +kernel
theorem dX3_join_35 : decode cX3_join 35 = .ok (.aload_n 0, 1) := by decide +kernel
theorem dX3_join_36 : decode cX3_join 36 = .ok (.getfield 20, 3) := by decide +kernel
theorem dX3_join_39 : decode cX3_join 39 = .ok (.istore_n 2, 1) := by decide +kernel
theorem dX3_join_40 : decode cX3_join 40 = .ok (.iload_n 2, 1) := by decide +kernel
theorem dX3_join_41 : decode cX3_join 41 = .ok (.ifCond .le 38, 3) := by decide +kernel
theorem dX3_join_44 : decode cX3_join 44 = .ok (.aload_n 1, 1) := by decide +kernel
theorem dX3_join_45 : decode cX3_join 45 = .ok (.aload_n 0, 1) := by decide +kernel
theorem dX3_join_46 : decode cX3_join 46 = .ok (.getfield 11, 3) := by decide +kernel
theorem dX3_join_49 : decode cX3_join 49 = .ok (.iload_n 2, 1) := by decide +kernel
theorem dX3_join_50 : decode cX3_join 50 = .ok (.iconst 1, 1) := by decide +kernel
theorem dX3_join_51 : decode cX3_join 51 = .ok (.isub, 1) := by decide +kernel
theorem dX3_join_52 : decode cX3_join 52 = .ok (.aaload, 1) := by decide +kernel
theorem dX3_join_53 : decode cX3_join 53 = .ok (.invokestatic 24, 3) := by decide +kernel
theorem dX3_join_56 : decode cX3_join 56 = .ok (.ifCond .eq 23, 3) := by decide +kernel
theorem dX3_join_59 : decode cX3_join 59 = .ok (.aload_n 0, 1) := by decide +kernel
theorem dX3_join_60 : decode cX3_join 60 = .ok (.getfield 11, 3) := by decide +kernel
theorem dX3_join_63 : decode cX3_join 63 = .ok (.iload_n 2, 1) := by decide +kernel
theorem dX3_join_64 : decode cX3_join 64 = .ok (.aload_n 0, 1) := by decide +kernel
theorem dX3_join_65 : decode cX3_join 65 = .ok (.getfield 11, 3) := by decide +kernel
theorem dX3_join_68 : decode cX3_join 68 = .ok (.iload_n 2, 1) := by decide +kernel
theorem dX3_join_69 : decode cX3_join 69 = .ok (.iconst 1, 1) := by decide +kernel
theorem dX3_join_70 : decode cX3_join 70 = .ok (.isub, 1) := by decide +kernel
theorem dX3_join_71 : decode cX3_join 71 = .ok (.aaload, 1) := by decide +kernel
theorem dX3_join_72 : decode cX3_join 72 = .ok (.aastore, 1) := by decide +kernel
theorem dX3_join_73 : decode cX3_join 73 = .ok (.iinc 2 (-1), 3) := by decide +kernel
theorem dX3_join_76 : decode cX3_join 76 = .ok (.goto (-36), 3) := by decide +kernel
theorem dX3_join_79 : decode cX3_join 79 = .ok (.aload_n 0, 1) := by decide +kernel
theorem dX3_join_80 : decode cX3_join 80 = .ok (.getfield 11, 3) := by decide +kernel
theorem dX3_join_83 : decode cX3_join 83 = .ok (.iload_n 2, 1) := by decide +kernel
theorem dX3_join_84 : decode cX3_join 84 = .ok (.aload_n 1, 1) := by decide +kernel
theorem dX3_join_85 : decode cX3_join 85 = .ok (.aastore, 1) := by decide +kernel
theorem dX3_join_86 : decode cX3_join 86 = .ok (.aload_n 0, 1) := by decide +kernel
theorem dX3_join_87 : decode cX3_join 87 = .ok (.dup, 1) := by decide +kernel
theorem dX3_join_88 : decode cX3_join 88 = .ok (.getfield 20, 3) := by decide +kernel
theorem dX3_join_91 : decode cX3_join 91 = .ok (.iconst 1, 1) := by decide +kernel
theorem dX3_join_92 : decode cX3_join 92 = .ok (.iadd, 1) := by decide +kernel
theorem dX3_join_93 : decode cX3_join 93 = .ok (.putfield 20, 3) := by decide +kernel
theorem dX3_join_96 : decode cX3_join 96 = .ok (.return_, 1) := by decide +kernel
theorem dX3_leave_0 : decode cX3_leave 0 = .ok (.aload_n 0, 1) := by decide +kernel
theorem dX3_leave_1 : decode cX3_leave 1 = .ok (.getfield 11, 3) := by decide +kernel
theorem dX3_leave_4 : decode cX3_leave 4 = .ok (.aload_n 1, 1) := by decide +kernel
theorem dX3_leave_5 : decode cX3_leave 5 = .ok (.invokestatic 28, 3) := by decide +kernel
theorem dX3_leave_8 : decode cX3_leave 8 = .ok (.ifCond .eq 24, 3) := by decide +kernel
theorem dX3_leave_11 : decode cX3_leave 11 = .ok (.aload_n 0, 1) := by decide +kernel
theorem dX3_leave_12 : decode cX3_leave 12 = .ok (.getfield 17, 3) := by decide +kernel
theorem dX3_leave_15 : decode cX3_leave 15 = .ok (.aload_n 1, 1) := by decide +kernel
theorem dX3_leave_16 : decode cX3_leave 16 = .ok (.invokestatic 28, 3) := by decide +kernel
theorem dX3_leave_19 : decode cX3_leave 19 = .ok (.ifCond .eq 13, 3) := by decide +kernel
theorem dX3_leave_22 : decode cX3_leave 22 = .ok (.aload_n 0, 1) := by decide +kernel
theorem dX3_leave_23 : decode cX3_leave 23 = .ok (.dup, 1) := by decide +kernel
theorem dX3_leave_24 : decode cX3_leave 24 = .ok (.getfield 20, 3) := by decide +kernel
theorem dX3_leave_27 : decode cX3_leave 27 = .ok (.iconst 1, 1) := by decide +kernel
theorem dX3_leave_28 : decode cX3_leave 28 = .ok (.isub, 1) := by decide +kernel
theorem dX3_leave_29 : decode cX3_leave 29 = .ok (.putfield 20, 3) := by decide +kernel
theorem dX3_leave_32 : decode cX3_leave 32 = .ok (.return_, 1) := by decide +kernel
theorem dX3_takeOut_0 : decode cX3_takeOut 0 = .ok (.iconst 0, 1) := by decide +kernel
theorem dX3_takeOut_1 : decode cX3_takeOut 1 = .ok (.istore_n 2, 1) := by decide +kernel
theorem dX3_takeOut_2 : decode cX3_takeOut 2 = .ok (.iconst 0, 1) := by decide +kernel
theorem dX3_takeOut_3 : decode cX3_takeOut 3 = .ok (.istore_n 3, 1) := by decide +kernel
theorem dX3_takeOut_4 : decode cX3_takeOut 4 = .ok (.iload_n 3, 1) := by decide +kernel
theorem dX3_takeOut_5 : decode cX3_takeOut 5 = .ok (.aload_n 0, 1) := by decide +kernel
theorem dX3_takeOut_6 : decode cX3_takeOut 6 = .ok (.arraylength, 1) := by decide +kernel
theorem dX3_takeOut_7 : decode cX3_takeOut 7 = .ok (.if_icmp .ge 42, 3) := by decide +kernel
theorem dX3_takeOut_10 : decode cX3_takeOut 10 = .ok (.aload_n 0, 1) := by decide +kernel
theorem dX3_takeOut_11 : decode cX3_takeOut 11 = .ok (.iload_n 3, 1) := by decide +kernel
theorem dX3_takeOut_12 : decode cX3_takeOut 12 = .ok (.aaload, 1) := by decide +kernel
theorem dX3_takeOut_13 : decode cX3_takeOut 13 = .ok (.aload_n 1, 1) := by decide +kernel
theorem dX3_takeOut_14 : decode cX3_takeOut 14 = .ok (.if_acmp .ne 5, 3) := by decide +kernel
theorem dX3_takeOut_17 : decode cX3_takeOut 17 = .ok (.iconst 1, 1) := by decide +kernel
theorem dX3_takeOut_18 : decode cX3_takeOut 18 = .ok (.istore_n 2, 1) := by decide +kernel
theorem dX3_takeOut_19 : decode cX3_takeOut 19 = .ok (.iload_n 2, 1) := by decide +kernel
theorem dX3_takeOut_20 : decode cX3_takeOut 20 = .ok (.ifCond .eq 23, 3) := by decide +kernel
theorem dX3_takeOut_23 : decode cX3_takeOut 23 = .ok (.aload_n 0, 1) := by decide +kernel
theorem dX3_takeOut_24 : decode cX3_takeOut 24 = .ok (.iload_n 3, 1) := by decide +kernel
theorem dX3_takeOut_25 : decode cX3_takeOut 25 = .ok (.iload_n 3, 1) := by decide +kernel
theorem dX3_takeOut_26 : decode cX3_takeOut 26 = .ok (.iconst 1, 1) := by decide +kernel
theorem dX3_takeOut_27 : decode cX3_takeOut 27 = .ok (.iadd, 1) := by decide +kernel
theorem dX3_takeOut_28 : decode cX3_takeOut 28 = .ok (.aload_n 0, 1) := by decide +kernel
theorem dX3_takeOut_29 : decode cX3_takeOut 29 = .ok (.arraylength, 1) := by decide +kernel
theorem dX3_takeOut_30 : decode cX3_takeOut 30 = .ok (.if_icmp .ge 11, 3) := by decide +kernel
theorem dX3_takeOut_33 : decode cX3_takeOut 33 = .ok (.aload_n 0, 1) := by decide +kernel
theorem dX3_takeOut_34 : decode cX3_takeOut 34 = .ok (.iload_n 3, 1) := by decide +kernel
theorem dX3_takeOut_35 : decode cX3_takeOut 35 = .ok (.iconst 1, 1) := by decide +kernel
theorem dX3_takeOut_36 : decode cX3_takeOut 36 = .ok (.iadd, 1) := by decide +kernel
theorem dX3_takeOut_37 : decode cX3_takeOut 37 = .ok (.aaload, 1) := by decide +kernel
theorem dX3_takeOut_38 : decode cX3_takeOut 38 = .ok (.goto 4, 3) := by decide +kernel
theorem dX3_takeOut_41 : decode cX3_takeOut 41 = .ok (.aconst_null, 1) := by decide +kernel
theorem dX3_takeOut_42 : decode cX3_takeOut 42 = .ok (.aastore, 1) := by decide +kernel
theorem dX3_takeOut_43 : decode cX3_takeOut 43 = .ok (.iinc 3 1, 3) := by decide +kernel
theorem dX3_takeOut_46 : decode cX3_takeOut 46 = .ok (.goto (-42), 3) := by decide +kernel
theorem dX3_takeOut_49 : decode cX3_takeOut 49 = .ok (.iload_n 2, 1) := by decide +kernel
theorem dX3_takeOut_50 : decode cX3_takeOut 50 = .ok (.ireturn, 1) := by decide +kernel
theorem dX3_at_0 : decode cX3_at 0 = .ok (.iload_n 1, 1) := by decide +kernel
theorem dX3_at_1 : decode cX3_at 1 = .ok (.ifCond .lt 29, 3) := by decide +kernel
theorem dX3_at_4 : decode cX3_at 4 = .ok (.iload_n 1, 1) := by decide +kernel
theorem dX3_at_5 : decode cX3_at 5 = .ok (.aload_n 0, 1) := by decide +kernel
theorem dX3_at_6 : decode cX3_at 6 = .ok (.getfield 20, 3) := by decide +kernel
theorem dX3_at_9 : decode cX3_at 9 = .ok (.if_icmp .ge 21, 3) := by decide +kernel
theorem dX3_at_12 : decode cX3_at 12 = .ok (.iload_n 1, 1) := by decide +kernel
theorem dX3_at_13 : decode cX3_at 13 = .ok (.aload_n 0, 1) := by decide +kernel
theorem dX3_at_14 : decode cX3_at 14 = .ok (.getfield 11, 3) := by decide +kernel
theorem dX3_at_17 : decode cX3_at 17 = .ok (.arraylength, 1) := by decide +kernel
theorem dX3_at_18 : decode cX3_at 18 = .ok (.if_icmp .ge 12, 3) := by decide +kernel
theorem dX3_at_21 : decode cX3_at 21 = .ok (.aload_n 0, 1) := by decide +kernel
theorem dX3_at_22 : decode cX3_at 22 = .ok (.getfield 11, 3) := by decide +kernel
theorem dX3_at_25 : decode cX3_at 25 = .ok (.iload_n 1, 1) := by decide +kernel
theorem dX3_at_26 : decode cX3_at 26 = .ok (.aaload, 1) := by decide +kernel
theorem dX3_at_27 : decode cX3_at 27 = .ok (.goto 4, 3) := by decide +kernel
theorem dX3_at_30 : decode cX3_at 30 = .ok (.aconst_null, 1) := by decide +kernel
theorem dX3_at_31 : decode cX3_at 31 = .ok (.areturn, 1) := by decide +kernel
theorem dX3_atByCounting_0 : decode cX3_atByCounting 0 = .ok (.iconst 0, 1) := by decide +kernel
theorem dX3_atByCounting_1 : decode cX3_atByCounting 1 = .ok (.istore_n 2, 1) := by decide +kernel
theorem dX3_atByCounting_2 : decode cX3_atByCounting 2 = .ok (.iload_n 2, 1) := by decide +kernel
theorem dX3_atByCounting_3 : decode cX3_atByCounting 3 = .ok (.aload_n 0, 1) := by decide +kernel
theorem dX3_atByCounting_4 : decode cX3_atByCounting 4 = .ok (.getfield 20, 3) := by decide +kernel
theorem dX3_atByCounting_7 : decode cX3_atByCounting 7 = .ok (.if_icmp .ge 39, 3) := by decide +kernel
theorem dX3_atByCounting_10 : decode cX3_atByCounting 10 = .ok (.iload_n 2, 1) := by decide +kernel
theorem dX3_atByCounting_11 : decode cX3_atByCounting 11 = .ok (.aload_n 0, 1) := by decide +kernel
theorem dX3_atByCounting_12 : decode cX3_atByCounting 12 = .ok (.getfield 17, 3) := by decide +kernel
theorem dX3_atByCounting_15 : decode cX3_atByCounting 15 = .ok (.arraylength, 1) := by decide +kernel
theorem dX3_atByCounting_16 : decode cX3_atByCounting 16 = .ok (.if_icmp .ge 30, 3) := by decide +kernel
theorem dX3_atByCounting_19 : decode cX3_atByCounting 19 = .ok (.aload_n 0, 1) := by decide +kernel
theorem dX3_atByCounting_20 : decode cX3_atByCounting 20 = .ok (.aload_n 0, 1) := by decide +kernel
theorem dX3_atByCounting_21 : decode cX3_atByCounting 21 = .ok (.getfield 17, 3) := by decide +kernel
theorem dX3_atByCounting_24 : decode cX3_atByCounting 24 = .ok (.iload_n 2, 1) := by decide +kernel
theorem dX3_atByCounting_25 : decode cX3_atByCounting 25 = .ok (.aaload, 1) := by decide +kernel
theorem dX3_atByCounting_26 : decode cX3_atByCounting 26 = .ok (.invokevirtual 32, 3) := by decide +kernel
theorem dX3_atByCounting_29 : decode cX3_atByCounting 29 = .ok (.iload_n 1, 1) := by decide +kernel
theorem dX3_atByCounting_30 : decode cX3_atByCounting 30 = .ok (.if_icmp .ne 10, 3) := by decide +kernel
theorem dX3_atByCounting_33 : decode cX3_atByCounting 33 = .ok (.aload_n 0, 1) := by decide +kernel
theorem dX3_atByCounting_34 : decode cX3_atByCounting 34 = .ok (.getfield 17, 3) := by decide +kernel
theorem dX3_atByCounting_37 : decode cX3_atByCounting 37 = .ok (.iload_n 2, 1) := by decide +kernel
theorem dX3_atByCounting_38 : decode cX3_atByCounting 38 = .ok (.aaload, 1) := by decide +kernel
theorem dX3_atByCounting_39 : decode cX3_atByCounting 39 = .ok (.areturn, 1) := by decide +kernel
theorem dX3_atByCounting_40 : decode cX3_atByCounting 40 = .ok (.iinc 2 1, 3) := by decide +kernel
theorem dX3_atByCounting_43 : decode cX3_atByCounting 43 = .ok (.goto (-41), 3) := by decide +kernel
theorem dX3_atByCounting_46 : decode cX3_atByCounting 46 = .ok (.aconst_null, 1) := by decide +kernel
theorem dX3_atByCounting_47 : decode cX3_atByCounting 47 = .ok (.areturn, 1) := by decide +kernel
theorem dX3_countAhead_0 : decode cX3_countAhead 0 = .ok (.iconst 0, 1) := by decide +kernel
theorem dX3_countAhead_1 : decode cX3_countAhead 1 = .ok (.istore_n 2, 1) := by decide +kernel
theorem dX3_countAhead_2 : decode cX3_countAhead 2 = .ok (.iconst 0, 1) := by decide +kernel
theorem dX3_countAhead_3 : decode cX3_countAhead 3 = .ok (.istore_n 3, 1) := by decide +kernel
theorem dX3_countAhead_4 : decode cX3_countAhead 4 = .ok (.iload_n 3, 1) := by decide +kernel
theorem dX3_countAhead_5 : decode cX3_countAhead 5 = .ok (.aload_n 0, 1) := by decide +kernel
theorem dX3_countAhead_6 : decode cX3_countAhead 6 = .ok (.getfield 20, 3) := by decide +kernel
theorem dX3_countAhead_9 : decode cX3_countAhead 9 = .ok (.if_icmp .ge 34, 3) := by decide +kernel
theorem dX3_countAhead_12 : decode cX3_countAhead 12 = .ok (.iload_n 3, 1) := by decide +kernel
theorem dX3_countAhead_13 : decode cX3_countAhead 13 = .ok (.aload_n 0, 1) := by decide +kernel
theorem dX3_countAhead_14 : decode cX3_countAhead 14 = .ok (.getfield 17, 3) := by decide +kernel
theorem dX3_countAhead_17 : decode cX3_countAhead 17 = .ok (.arraylength, 1) := by decide +kernel
theorem dX3_countAhead_18 : decode cX3_countAhead 18 = .ok (.if_icmp .ge 25, 3) := by decide +kernel
theorem dX3_countAhead_21 : decode cX3_countAhead 21 = .ok (.aload_n 0, 1) := by decide +kernel
theorem dX3_countAhead_22 : decode cX3_countAhead 22 = .ok (.getfield 17, 3) := by decide +kernel
theorem dX3_countAhead_25 : decode cX3_countAhead 25 = .ok (.iload_n 3, 1) := by decide +kernel
theorem dX3_countAhead_26 : decode cX3_countAhead 26 = .ok (.aaload, 1) := by decide +kernel
theorem dX3_countAhead_27 : decode cX3_countAhead 27 = .ok (.aload_n 1, 1) := by decide +kernel
theorem dX3_countAhead_28 : decode cX3_countAhead 28 = .ok (.invokestatic 24, 3) := by decide +kernel
theorem dX3_countAhead_31 : decode cX3_countAhead 31 = .ok (.ifCond .eq 6, 3) := by decide +kernel
theorem dX3_countAhead_34 : decode cX3_countAhead 34 = .ok (.iinc 2 1, 3) := by decide +kernel
theorem dX3_countAhead_37 : decode cX3_countAhead 37 = .ok (.iinc 3 1, 3) := by decide +kernel
theorem dX3_countAhead_40 : decode cX3_countAhead 40 = .ok (.goto (-36), 3) := by decide +kernel
theorem dX3_countAhead_43 : decode cX3_countAhead 43 = .ok (.iload_n 2, 1) := by decide +kernel
theorem dX3_countAhead_44 : decode cX3_countAhead 44 = .ok (.ireturn, 1) := by decide +kernel
theorem dX3_isAhead_0 : decode cX3_isAhead 0 = .ok (.aload_n 0, 1) := by decide +kernel
theorem dX3_isAhead_1 : decode cX3_isAhead 1 = .ok (.ifnull 19, 3) := by decide +kernel
theorem dX3_isAhead_4 : decode cX3_isAhead 4 = .ok (.aload_n 1, 1) := by decide +kernel
theorem dX3_isAhead_5 : decode cX3_isAhead 5 = .ok (.ifnull 15, 3) := by decide +kernel
theorem dX3_isAhead_8 : decode cX3_isAhead 8 = .ok (.aload_n 0, 1) := by decide +kernel
theorem dX3_isAhead_9 : decode cX3_isAhead 9 = .ok (.aload_n 1, 1) := by decide +kernel
theorem dX3_isAhead_10 : decode cX3_isAhead 10 = .ok (.invokevirtual 36, 3) := by decide +kernel
theorem dX3_isAhead_13 : decode cX3_isAhead 13 = .ok (.ifCond .eq 7, 3) := by decide +kernel
theorem dX3_isAhead_16 : decode cX3_isAhead 16 = .ok (.iconst 1, 1) := by decide +kernel
theorem dX3_isAhead_17 : decode cX3_isAhead 17 = .ok (.goto 4, 3) := by decide +kernel
theorem dX3_isAhead_20 : decode cX3_isAhead 20 = .ok (.iconst 0, 1) := by decide +kernel
theorem dX3_isAhead_21 : decode cX3_isAhead 21 = .ok (.ireturn, 1) := by decide +kernel
theorem dX3_isSameByCounting_0 : decode cX3_isSameByCounting 0 = .ok (.iconst 0, 1) := by decide +kernel
theorem dX3_isSameByCounting_1 : decode cX3_isSameByCounting 1 = .ok (.istore_n 1, 1) := by decide +kernel
theorem dX3_isSameByCounting_2 : decode cX3_isSameByCounting 2 = .ok (.iload_n 1, 1) := by decide +kernel
theorem dX3_isSameByCounting_3 : decode cX3_isSameByCounting 3 = .ok (.aload_n 0, 1) := by decide +kernel
theorem dX3_isSameByCounting_4 : decode cX3_isSameByCounting 4 = .ok (.getfield 20, 3) := by decide +kernel
theorem dX3_isSameByCounting_7 : decode cX3_isSameByCounting 7 = .ok (.if_icmp .ge 32, 3) := by decide +kernel
theorem dX3_isSameByCounting_10 : decode cX3_isSameByCounting 10 = .ok (.aload_n 0, 1) := by decide +kernel
theorem dX3_isSameByCounting_11 : decode cX3_isSameByCounting 11 = .ok (.iload_n 1, 1) := by decide +kernel
theorem dX3_isSameByCounting_12 : decode cX3_isSameByCounting 12 = .ok (.invokevirtual 40, 3) := by decide +kernel
theorem dX3_isSameByCounting_15 : decode cX3_isSameByCounting 15 = .ok (.ifnull 16, 3) := by decide +kernel
theorem dX3_isSameByCounting_18 : decode cX3_isSameByCounting 18 = .ok (.aload_n 0, 1) := by decide +kernel
theorem dX3_isSameByCounting_19 : decode cX3_isSameByCounting 19 = .ok (.iload_n 1, 1) := by decide +kernel
theorem dX3_isSameByCounting_20 : decode cX3_isSameByCounting 20 = .ok (.invokevirtual 40, 3) := by decide +kernel
theorem dX3_isSameByCounting_23 : decode cX3_isSameByCounting 23 = .ok (.aload_n 0, 1) := by decide +kernel
theorem dX3_isSameByCounting_24 : decode cX3_isSameByCounting 24 = .ok (.iload_n 1, 1) := by decide +kernel
theorem dX3_isSameByCounting_25 : decode cX3_isSameByCounting 25 = .ok (.invokevirtual 44, 3) := by decide +kernel
theorem dX3_isSameByCounting_28 : decode cX3_isSameByCounting 28 = .ok (.if_acmp .eq 5, 3) := by decide +kernel
theorem dX3_isSameByCounting_31 : decode cX3_isSameByCounting 31 = .ok (.iconst 0, 1) := by decide +kernel
theorem dX3_isSameByCounting_32 : decode cX3_isSameByCounting 32 = .ok (.ireturn, 1) := by decide +kernel
theorem dX3_isSameByCounting_33 : decode cX3_isSameByCounting 33 = .ok (.iinc 1 1, 3) := by decide +kernel
theorem dX3_isSameByCounting_36 : decode cX3_isSameByCounting 36 = .ok (.goto (-34), 3) := by decide +kernel
theorem dX3_isSameByCounting_39 : decode cX3_isSameByCounting 39 = .ok (.iconst 1, 1) := by decide +kernel
theorem dX3_isSameByCounting_40 : decode cX3_isSameByCounting 40 = .ok (.ireturn, 1) := by decide +kernel
theorem dX4_init_0 : decode cX4_init 0 = .ok (.aload_n 0, 1) := by decide +kernel
theorem dX4_init_1 : decode cX4_init 1 = .ok (.invokespecial 3, 3) := by decide +kernel
theorem dX4_init_4 : decode cX4_init 4 = .ok (.aload_n 0, 1) := by decide +kernel
theorem dX4_init_5 : decode cX4_init 5 = .ok (.bipush 60, 2) := by decide +kernel
theorem dX4_init_7 : decode cX4_init 7 = .ok (.anewarray 9, 3) := by decide +kernel
theorem dX4_init_10 : decode cX4_init 10 = .ok (.putfield 11, 3) := by decide +kernel
theorem dX4_init_13 : decode cX4_init 13 = .ok (.iconst 0, 1) := by decide +kernel
theorem dX4_init_14 : decode cX4_init 14 = .ok (.istore_n 1, 1) := by decide +kernel
theorem dX4_init_15 : decode cX4_init 15 = .ok (.iload_n 1, 1) := by decide +kernel
theorem dX4_init_16 : decode cX4_init 16 = .ok (.aload_n 0, 1) := by decide +kernel
theorem dX4_init_17 : decode cX4_init 17 = .ok (.getfield 11, 3) := by decide +kernel
theorem dX4_init_20 : decode cX4_init 20 = .ok (.arraylength, 1) := by decide +kernel
theorem dX4_init_21 : decode cX4_init 21 = .ok (.if_icmp .ge 22, 3) := by decide +kernel
theorem dX4_init_24 : decode cX4_init 24 = .ok (.aload_n 0, 1) := by decide +kernel
theorem dX4_init_25 : decode cX4_init 25 = .ok (.getfield 11, 3) := by decide +kernel
theorem dX4_init_28 : decode cX4_init 28 = .ok (.iload_n 1, 1) := by decide +kernel
theorem dX4_init_29 : decode cX4_init 29 = .ok (.new 9, 3) := by decide +kernel
theorem dX4_init_32 : decode cX4_init 32 = .ok (.dup, 1) := by decide +kernel
theorem dX4_init_33 : decode cX4_init 33 = .ok (.invokespecial 17, 3) := by decide +kernel
theorem dX4_init_36 : decode cX4_init 36 = .ok (.aastore, 1) := by decide +kernel
theorem dX4_init_37 : decode cX4_init 37 = .ok (.iinc 1 1, 3) := by decide +kernel
theorem dX4_init_40 : decode cX4_init 40 = .ok (.goto (-25), 3) := by decide +kernel
theorem dX4_init_43 : decode cX4_init 43 = .ok (.return_, 1) := by decide +kernel
theorem dX4_write_0 : decode cX4_write 0 = .ok (.aload_n 0, 1) := by decide +kernel
theorem dX4_write_1 : decode cX4_write 1 = .ok (.getfield 18, 3) := by decide +kernel
theorem dX4_write_4 : decode cX4_write 4 = .ok (.ifCond .lt 54, 3) := by decide +kernel
theorem dX4_write_7 : decode cX4_write 7 = .ok (.aload_n 0, 1) := by decide +kernel
theorem dX4_write_8 : decode cX4_write 8 = .ok (.getfield 18, 3) := by decide +kernel
theorem dX4_write_11 : decode cX4_write 11 = .ok (.aload_n 0, 1) := by decide +kernel
theorem dX4_write_12 : decode cX4_write 12 = .ok (.getfield 11, 3) := by decide +kernel
theorem dX4_write_15 : decode cX4_write 15 = .ok (.arraylength, 1) := by decide +kernel
theorem dX4_write_16 : decode cX4_write 16 = .ok (.if_icmp .ge 42, 3) := by decide +kernel
theorem dX4_write_19 : decode cX4_write 19 = .ok (.aload_n 0, 1) := by decide +kernel
theorem dX4_write_20 : decode cX4_write 20 = .ok (.getfield 11, 3) := by decide +kernel
theorem dX4_write_23 : decode cX4_write 23 = .ok (.aload_n 0, 1) := by decide +kernel
theorem dX4_write_24 : decode cX4_write 24 = .ok (.getfield 18, 3) := by decide +kernel
theorem dX4_write_27 : decode cX4_write 27 = .ok (.aaload, 1) := by decide +kernel
theorem dX4_write_28 : decode cX4_write 28 = .ok (.iload_n 1, 1) := by decide +kernel
theorem dX4_write_29 : decode cX4_write 29 = .ok (.putfield 22, 3) := by decide +kernel
theorem dX4_write_32 : decode cX4_write 32 = .ok (.aload_n 0, 1) := by decide +kernel
theorem dX4_write_33 : decode cX4_write 33 = .ok (.getfield 11, 3) := by decide +kernel
theorem dX4_write_36 : decode cX4_write 36 = .ok (.aload_n 0, 1) := by decide +kernel
theorem dX4_write_37 : decode cX4_write 37 = .ok (.getfield 18, 3) := by decide +kernel
theorem dX4_write_40 : decode cX4_write 40 = .ok (.aaload, 1) := by decide +kernel
theorem dX4_write_41 : decode cX4_write 41 = .ok (.iload_n 2, 1) := by decide +kernel
theorem dX4_write_42 : decode cX4_write 42 = .ok (.putfield 25, 3) := by decide +kernel
theorem dX4_write_45 : decode cX4_write 45 = .ok (.aload_n 0, 1) := by decide +kernel
theorem dX4_write_46 : decode cX4_write 46 = .ok (.getfield 11, 3) := by decide +kernel
theorem dX4_write_49 : decode cX4_write 49 = .ok (.aload_n 0, 1) := by decide +kernel
theorem dX4_write_50 : decode cX4_write 50 = .ok (.getfield 18, 3) := by decide +kernel
theorem dX4_write_53 : decode cX4_write 53 = .ok (.aaload, 1) := by decide +kernel
theorem dX4_write_54 : decode cX4_write 54 = .ok (.iload_n 3, 1) := by decide +kernel
theorem dX4_write_55 : decode cX4_write 55 = .ok (.putfield 29, 3) := by decide +kernel
theorem dX4_write_58 : decode cX4_write 58 = .ok (.aload_n 0, 1) := by decide +kernel
theorem dX4_write_59 : decode cX4_write 59 = .ok (.aload_n 0, 1) := by decide +kernel
theorem dX4_write_60 : decode cX4_write 60 = .ok (.getfield 18, 3) := by decide +kernel
theorem dX4_write_63 : decode cX4_write 63 = .ok (.iconst 1, 1) := by decide +kernel
theorem dX4_write_64 : decode cX4_write 64 = .ok (.iadd, 1) := by decide +kernel
theorem dX4_write_65 : decode cX4_write 65 = .ok (.aload_n 0, 1) := by decide +kernel
theorem dX4_write_66 : decode cX4_write 66 = .ok (.getfield 11, 3) := by decide +kernel
theorem dX4_write_69 : decode cX4_write 69 = .ok (.arraylength, 1) := by decide +kernel
theorem dX4_write_70 : decode cX4_write 70 = .ok (.if_icmp .ge 12, 3) := by decide +kernel
theorem dX4_write_73 : decode cX4_write 73 = .ok (.aload_n 0, 1) := by decide +kernel
theorem dX4_write_74 : decode cX4_write 74 = .ok (.getfield 18, 3) := by decide +kernel
theorem dX4_write_77 : decode cX4_write 77 = .ok (.iconst 1, 1) := by decide +kernel
theorem dX4_write_78 : decode cX4_write 78 = .ok (.iadd, 1) := by decide +kernel
theorem dX4_write_79 : decode cX4_write 79 = .ok (.goto 4, 3) := by decide +kernel
theorem dX4_write_82 : decode cX4_write 82 = .ok (.iconst 0, 1) := by decide +kernel
theorem dX4_write_83 : decode cX4_write 83 = .ok (.putfield 18, 3) := by decide +kernel
theorem dX4_write_86 : decode cX4_write 86 = .ok (.aload_n 0, 1) := by decide +kernel
theorem dX4_write_87 : decode cX4_write 87 = .ok (.aload_n 0, 1) := by decide +kernel
theorem dX4_write_88 : decode cX4_write 88 = .ok (.getfield 32, 3) := by decide +kernel
theorem dX4_write_91 : decode cX4_write 91 = .ok (.iconst 1, 1) := by decide +kernel
theorem dX4_write_92 : decode cX4_write 92 = .ok (.iadd, 1) := by decide +kernel
theorem dX4_write_93 : decode cX4_write 93 = .ok (.aload_n 0, 1) := by decide +kernel
theorem dX4_write_94 : decode cX4_write 94 = .ok (.getfield 11, 3) := by decide +kernel
theorem dX4_write_97 : decode cX4_write 97 = .ok (.arraylength, 1) := by decide +kernel
theorem dX4_write_98 : decode cX4_write 98 = .ok (.invokestatic 35, 3) := by decide +kernel
theorem dX4_write_101 : decode cX4_write 101 = .ok (.putfield 32, 3) := by decide +kernel
theorem dX4_write_104 : decode cX4_write 104 = .ok (.aload_n 0, 1) := by decide +kernel
theorem dX4_write_105 : decode cX4_write 105 = .ok (.dup, 1) := by decide +kernel
theorem dX4_write_106 : decode cX4_write 106 = .ok (.getfield 41, 3) := by decide +kernel
theorem dX4_write_109 : decode cX4_write 109 = .ok (.iconst 1, 1) := by decide +kernel
theorem dX4_write_110 : decode cX4_write 110 = .ok (.iadd, 1) := by decide +kernel
theorem dX4_write_111 : decode cX4_write 111 = .ok (.putfield 41, 3) := by decide +kernel
theorem dX4_write_114 : decode cX4_write 114 = .ok (.return_, 1) := by decide +kernel
theorem dX4_entry_0 : decode cX4_entry 0 = .ok (.iload_n 1, 1) := by decide +kernel
theorem dX4_entry_1 : decode cX4_entry 1 = .ok (.ifCond .lt 11, 3) := by decide +kernel
theorem dX4_entry_4 : decode cX4_entry 4 = .ok (.iload_n 1, 1) := by decide +kernel
theorem dX4_entry_5 : decode cX4_entry 5 = .ok (.aload_n 0, 1) := by decide +kernel
theorem dX4_entry_6 : decode cX4_entry 6 = .ok (.getfield 32, 3) := by decide +kernel
theorem dX4_entry_9 : decode cX4_entry 9 = .ok (.if_icmp .lt 13, 3) := by decide +kernel
theorem dX4_entry_12 : decode cX4_entry 12 = .ok (.new 44, 3) := by decide +kernel
theorem dX4_entry_15 : decode cX4_entry 15 = .ok (.dup, 1) := by decide +kernel
theorem dX4_entry_16 : decode cX4_entry 16 = .ok (.ldc 46, 2) := by decide +kernel
theorem dX4_entry_18 : decode cX4_entry 18 = .ok (.invokespecial 48, 3) := by decide +kernel
theorem dX4_entry_21 : decode cX4_entry 21 = .ok (.athrow, 1) := by decide +kernel
theorem dX4_entry_22 : decode cX4_entry 22 = .ok (.aload_n 0, 1) := by decide +kernel
theorem dX4_entry_23 : decode cX4_entry 23 = .ok (.getfield 18, 3) := by decide +kernel
theorem dX4_entry_26 : decode cX4_entry 26 = .ok (.iconst 1, 1) := by decide +kernel
theorem dX4_entry_27 : decode cX4_entry 27 = .ok (.isub, 1) := by decide +kernel
theorem dX4_entry_28 : decode cX4_entry 28 = .ok (.iload_n 1, 1) := by decide +kernel
theorem dX4_entry_29 : decode cX4_entry 29 = .ok (.isub, 1) := by decide +kernel
theorem dX4_entry_30 : decode cX4_entry 30 = .ok (.istore_n 2, 1) := by decide +kernel
theorem dX4_entry_31 : decode cX4_entry 31 = .ok (.aload_n 0, 1) := by decide +kernel
theorem dX4_entry_32 : decode cX4_entry 32 = .ok (.getfield 11, 3) := by decide +kernel
theorem dX4_entry_35 : decode cX4_entry 35 = .ok (.iload_n 2, 1) := by decide +kernel
theorem dX4_entry_36 : decode cX4_entry 36 = .ok (.ifCond .lt 7, 3) := by decide +kernel
theorem dX4_entry_39 : decode cX4_entry 39 = .ok (.iload_n 2, 1) := by decide +kernel
theorem dX4_entry_40 : decode cX4_entry 40 = .ok (.goto 10, 3) := by decide +kernel
theorem dX4_entry_43 : decode cX4_entry 43 = .ok (.iload_n 2, 1) := by decide +kernel
theorem dX4_entry_44 : decode cX4_entry 44 = .ok (.aload_n 0, 1) := by decide +kernel
theorem dX4_entry_45 : decode cX4_entry 45 = .ok (.getfield 11, 3) := by decide +kernel
theorem dX4_entry_48 : decode cX4_entry 48 = .ok (.arraylength, 1) := by decide +kernel
theorem dX4_entry_49 : decode cX4_entry 49 = .ok (.iadd, 1) := by decide +kernel
theorem dX4_entry_50 : decode cX4_entry 50 = .ok (.aaload, 1) := by decide +kernel
theorem dX4_entry_51 : decode cX4_entry 51 = .ok (.areturn, 1) := by decide +kernel
theorem dX5_init_0 : decode cX5_init 0 = .ok (.aload_n 0, 1) := by decide +kernel
theorem dX5_init_1 : decode cX5_init 1 = .ok (.invokespecial 3, 3) := by decide +kernel
theorem dX5_init_4 : decode cX5_init 4 = .ok (.aload_n 0, 1) := by decide +kernel
theorem dX5_init_5 : decode cX5_init 5 = .ok (.iload_n 1, 1) := by decide +kernel
theorem dX5_init_6 : decode cX5_init 6 = .ok (.putfield 9, 3) := by decide +kernel
theorem dX5_init_9 : decode cX5_init 9 = .ok (.aload_n 0, 1) := by decide +kernel
theorem dX5_init_10 : decode cX5_init 10 = .ok (.iload_n 2, 1) := by decide +kernel
theorem dX5_init_11 : decode cX5_init 11 = .ok (.putfield 15, 3) := by decide +kernel
theorem dX5_init_14 : decode cX5_init 14 = .ok (.aload_n 0, 1) := by decide +kernel
theorem dX5_init_15 : decode cX5_init 15 = .ok (.iload_n 3, 1) := by decide +kernel
theorem dX5_init_16 : decode cX5_init 16 = .ok (.putfield 18, 3) := by decide +kernel
theorem dX5_init_19 : decode cX5_init 19 = .ok (.aload_n 0, 1) := by decide +kernel
theorem dX5_init_20 : decode cX5_init 20 = .ok (.iload 4, 2) := by decide +kernel
theorem dX5_init_22 : decode cX5_init 22 = .ok (.putfield 21, 3) := by decide +kernel
theorem dX5_init_25 : decode cX5_init 25 = .ok (.aload_n 0, 1) := by decide +kernel
theorem dX5_init_26 : decode cX5_init 26 = .ok (.iload 5, 2) := by decide +kernel
theorem dX5_init_28 : decode cX5_init 28 = .ok (.putfield 24, 3) := by decide +kernel
theorem dX5_init_31 : decode cX5_init 31 = .ok (.aload_n 0, 1) := by decide +kernel
theorem dX5_init_32 : decode cX5_init 32 = .ok (.bipush 119, 2) := by decide +kernel
theorem dX5_init_34 : decode cX5_init 34 = .ok (.putfield 27, 3) := by decide +kernel
theorem dX5_init_37 : decode cX5_init 37 = .ok (.aload_n 0, 1) := by decide +kernel
theorem dX5_init_38 : decode cX5_init 38 = .ok (.iconst (-1), 1) := by decide +kernel
theorem dX5_init_39 : decode cX5_init 39 = .ok (.putfield 31, 3) := by decide +kernel
theorem dX5_init_42 : decode cX5_init 42 = .ok (.return_, 1) := by decide +kernel
theorem dX5_setUrgency_0 : decode cX5_setUrgency 0 = .ok (.aload_n 0, 1) := by decide +kernel
theorem dX5_setUrgency_1 : decode cX5_setUrgency 1 = .ok (.iload_n 1, 1) := by decide +kernel
theorem dX5_setUrgency_2 : decode cX5_setUrgency 2 = .ok (.putfield 34, 3) := by decide +kernel
theorem dX5_setUrgency_5 : decode cX5_setUrgency 5 = .ok (.aload_n 0, 1) := by decide +kernel
theorem dX5_setUrgency_6 : decode cX5_setUrgency 6 = .ok (.iload_n 1, 1) := by decide +kernel
theorem dX5_setUrgency_7 : decode cX5_setUrgency 7 = .ok (.invokestatic 37, 3) := by decide +kernel
theorem dX5_setUrgency_10 : decode cX5_setUrgency 10 = .ok (.putfield 41, 3) := by decide +kernel
theorem dX5_setUrgency_13 : decode cX5_setUrgency 13 = .ok (.return_, 1) := by decide +kernel
theorem dX5_isOpen_0 : decode cX5_isOpen 0 = .ok (.aload_n 0, 1) := by decide +kernel
theorem dX5_isOpen_1 : decode cX5_isOpen 1 = .ok (.getfield 27, 3) := by decide +kernel
theorem dX5_isOpen_4 : decode cX5_isOpen 4 = .ok (.bipush 119, 2) := by decide +kernel
theorem dX5_isOpen_6 : decode cX5_isOpen 6 = .ok (.if_icmp .eq 12, 3) := by decide +kernel
theorem dX5_isOpen_9 : decode cX5_isOpen 9 = .ok (.aload_n 0, 1) := by decide +kernel
theorem dX5_isOpen_10 : decode cX5_isOpen 10 = .ok (.getfield 27, 3) := by decide +kernel
theorem dX5_isOpen_13 : decode cX5_isOpen 13 = .ok (.bipush 115, 2) := by decide +kernel
theorem dX5_isOpen_15 : decode cX5_isOpen 15 = .ok (.if_icmp .ne 7, 3) := by decide +kernel
theorem dX5_isOpen_18 : decode cX5_isOpen 18 = .ok (.iconst 1, 1) := by decide +kernel
theorem dX5_isOpen_19 : decode cX5_isOpen 19 = .ok (.goto 4, 3) := by decide +kernel
theorem dX5_isOpen_22 : decode cX5_isOpen 22 = .ok (.iconst 0, 1) := by decide +kernel
theorem dX5_isOpen_23 : decode cX5_isOpen 23 = .ok (.ireturn, 1) := by decide +kernel
theorem dX5_isAheadOf_0 : decode cX5_isAheadOf 0 = .ok (.aload_n 0, 1) := by decide +kernel
theorem dX5_isAheadOf_1 : decode cX5_isAheadOf 1 = .ok (.getfield 41, 3) := by decide +kernel
theorem dX5_isAheadOf_4 : decode cX5_isAheadOf 4 = .ok (.aload_n 1, 1) := by decide +kernel
theorem dX5_isAheadOf_5 : decode cX5_isAheadOf 5 = .ok (.getfield 41, 3) := by decide +kernel
theorem dX5_isAheadOf_8 : decode cX5_isAheadOf 8 = .ok (.if_icmp .eq 22, 3) := by decide +kernel
theorem dX5_isAheadOf_11 : decode cX5_isAheadOf 11 = .ok (.aload_n 0, 1) := by decide +kernel
theorem dX5_isAheadOf_12 : decode cX5_isAheadOf 12 = .ok (.getfield 41, 3) := by decide +kernel
theorem dX5_isAheadOf_15 : decode cX5_isAheadOf 15 = .ok (.aload_n 1, 1) := by decide +kernel
theorem dX5_isAheadOf_16 : decode cX5_isAheadOf 16 = .ok (.getfield 41, 3) := by decide +kernel
theorem dX5_isAheadOf_19 : decode cX5_isAheadOf 19 = .ok (.if_icmp .le 7, 3) := by decide +kernel
theorem dX5_isAheadOf_22 : decode cX5_isAheadOf 22 = .ok (.iconst 1, 1) := by decide +kernel
theorem dX5_isAheadOf_23 : decode cX5_isAheadOf 23 = .ok (.goto 23, 3) := by decide +kernel
theorem dX5_isAheadOf_26 : decode cX5_isAheadOf 26 = .ok (.iconst 0, 1) := by decide +kernel
theorem dX5_isAheadOf_27 : decode cX5_isAheadOf 27 = .ok (.goto 19, 3) := by decide +kernel
theorem dX5_isAheadOf_30 : decode cX5_isAheadOf 30 = .ok (.aload_n 0, 1) := by decide +kernel
theorem dX5_isAheadOf_31 : decode cX5_isAheadOf 31 = .ok (.getfield 9, 3) := by decide +kernel
theorem dX5_isAheadOf_34 : decode cX5_isAheadOf 34 = .ok (.aload_n 1, 1) := by decide +kernel
theorem dX5_isAheadOf_35 : decode cX5_isAheadOf 35 = .ok (.getfield 9, 3) := by decide +kernel
theorem dX5_isAheadOf_38 : decode cX5_isAheadOf 38 = .ok (.if_icmp .ge 7, 3) := by decide +kernel
theorem dX5_isAheadOf_41 : decode cX5_isAheadOf 41 = .ok (.iconst 1, 1) := by decide +kernel
theorem dX5_isAheadOf_42 : decode cX5_isAheadOf 42 = .ok (.goto 4, 3) := by decide +kernel
theorem dX5_isAheadOf_45 : decode cX5_isAheadOf 45 = .ok (.iconst 0, 1) := by decide +kernel
theorem dX5_isAheadOf_46 : decode cX5_isAheadOf 46 = .ok (.ireturn, 1) := by decide +kernel
theorem dX5_mayHave_0 : decode cX5_mayHave 0 = .ok (.iload_n 1, 1) := by decide +kernel
theorem dX5_mayHave_1 : decode cX5_mayHave 1 = .ok (.ifCond .gt 11, 3) := by decide +kernel
theorem dX5_mayHave_4 : decode cX5_mayHave 4 = .ok (.aload_n 0, 1) := by decide +kernel
theorem dX5_mayHave_5 : decode cX5_mayHave 5 = .ok (.getfield 41, 3) := by decide +kernel
theorem dX5_mayHave_8 : decode cX5_mayHave 8 = .ok (.iconst 2, 1) := by decide +kernel
theorem dX5_mayHave_9 : decode cX5_mayHave 9 = .ok (.if_icmp .lt 7, 3) := by decide +kernel
theorem dX5_mayHave_12 : decode cX5_mayHave 12 = .ok (.iconst 1, 1) := by decide +kernel
theorem dX5_mayHave_13 : decode cX5_mayHave 13 = .ok (.goto 4, 3) := by decide +kernel
theorem dX5_mayHave_16 : decode cX5_mayHave 16 = .ok (.iconst 0, 1) := by decide +kernel
theorem dX5_mayHave_17 : decode cX5_mayHave 17 = .ok (.ireturn, 1) := by decide +kernel
theorem dX5_canBreakInOn_0 : decode cX5_canBreakInOn 0 = .ok (.aload_n 0, 1) := by decide +kernel
theorem dX5_canBreakInOn_1 : decode cX5_canBreakInOn 1 = .ok (.getfield 41, 3) := by decide +kernel
theorem dX5_canBreakInOn_4 : decode cX5_canBreakInOn 4 = .ok (.iconst 2, 1) := by decide +kernel
theorem dX5_canBreakInOn_5 : decode cX5_canBreakInOn 5 = .ok (.if_icmp .lt 18, 3) := by decide +kernel
theorem dX5_canBreakInOn_8 : decode cX5_canBreakInOn 8 = .ok (.aload_n 0, 1) := by decide +kernel
theorem dX5_canBreakInOn_9 : decode cX5_canBreakInOn 9 = .ok (.getfield 41, 3) := by decide +kernel
theorem dX5_canBreakInOn_12 : decode cX5_canBreakInOn 12 = .ok (.aload_n 1, 1) := by decide +kernel
theorem dX5_canBreakInOn_13 : decode cX5_canBreakInOn 13 = .ok (.getfield 41, 3) := by decide +kernel
theorem dX5_canBreakInOn_16 : decode cX5_canBreakInOn 16 = .ok (.if_icmp .le 7, 3) := by decide +kernel
theorem dX5_canBreakInOn_19 : decode cX5_canBreakInOn 19 = .ok (.iconst 1, 1) := by decide +kernel
theorem dX5_canBreakInOn_20 : decode cX5_canBreakInOn 20 = .ok (.goto 4, 3) := by decide +kernel
theorem dX5_canBreakInOn_23 : decode cX5_canBreakInOn 23 = .ok (.iconst 0, 1) := by decide +kernel
theorem dX5_canBreakInOn_24 : decode cX5_canBreakInOn 24 = .ok (.ireturn, 1) := by decide +kernel
theorem dX5_sharesStationWith_0 : decode cX5_sharesStationWith 0 = .ok (.aload_n 0, 1) := by decide +kernel
theorem dX5_sharesStationWith_1 : decode cX5_sharesStationWith 1 = .ok (.getfield 44, 3) := by decide +kernel
theorem dX5_sharesStationWith_4 : decode cX5_sharesStationWith 4 = .ok (.iload_n 1, 1) := by decide +kernel
theorem dX5_sharesStationWith_5 : decode cX5_sharesStationWith 5 = .ok (.iand, 1) := by decide +kernel
theorem dX5_sharesStationWith_6 : decode cX5_sharesStationWith 6 = .ok (.ifCond .eq 7, 3) := by decide +kernel
theorem dX5_sharesStationWith_9 : decode cX5_sharesStationWith 9 = .ok (.iconst 1, 1) := by decide +kernel
theorem dX5_sharesStationWith_10 : decode cX5_sharesStationWith 10 = .ok (.goto 4, 3) := by decide +kernel
theorem dX5_sharesStationWith_13 : decode cX5_sharesStationWith 13 = .ok (.iconst 0, 1) := by decide +kernel
theorem dX5_sharesStationWith_14 : decode cX5_sharesStationWith 14 = .ok (.ireturn, 1) := by decide +kernel
theorem dX6_init_0 : decode cX6_init 0 = .ok (.aload_n 0, 1) := by decide +kernel
theorem dX6_init_1 : decode cX6_init 1 = .ok (.invokespecial 1, 3) := by decide +kernel
theorem dX6_init_4 : decode cX6_init 4 = .ok (.return_, 1) := by decide +kernel
theorem dX6_hasWatch_0 : decode cX6_hasWatch 0 = .ok (.aload_n 0, 1) := by decide +kernel
theorem dX6_hasWatch_1 : decode cX6_hasWatch 1 = .ok (.getfield 7, 3) := by decide +kernel
theorem dX6_hasWatch_4 : decode cX6_hasWatch 4 = .ok (.ifCond .le 7, 3) := by decide +kernel
theorem dX6_hasWatch_7 : decode cX6_hasWatch 7 = .ok (.iconst 1, 1) := by decide +kernel
theorem dX6_hasWatch_8 : decode cX6_hasWatch 8 = .ok (.goto 4, 3) := by decide +kernel
theorem dX6_hasWatch_11 : decode cX6_hasWatch 11 = .ok (.iconst 0, 1) := by decide +kernel
theorem dX6_hasWatch_12 : decode cX6_hasWatch 12 = .ok (.ireturn, 1) := by decide +kernel
theorem dX6_missesWatchAt_0 : decode cX6_missesWatchAt 0 = .ok (.aload_n 0, 1) := by decide +kernel
theorem dX6_missesWatchAt_1 : decode cX6_missesWatchAt 1 = .ok (.getfield 13, 3) := by decide +kernel
theorem dX6_missesWatchAt_4 : decode cX6_missesWatchAt 4 = .ok (.ifCond .eq 27, 3) := by decide +kernel
theorem dX6_missesWatchAt_7 : decode cX6_missesWatchAt 7 = .ok (.aload_n 0, 1) := by decide +kernel
theorem dX6_missesWatchAt_8 : decode cX6_missesWatchAt 8 = .ok (.invokevirtual 17, 3) := by decide +kernel
theorem dX6_missesWatchAt_11 : decode cX6_missesWatchAt 11 = .ok (.ifCond .eq 20, 3) := by decide +kernel
theorem dX6_missesWatchAt_14 : decode cX6_missesWatchAt 14 = .ok (.iload_n 1, 1) := by decide +kernel
theorem dX6_missesWatchAt_15 : decode cX6_missesWatchAt 15 = .ok (.aload_n 0, 1) := by decide +kernel
theorem dX6_missesWatchAt_16 : decode cX6_missesWatchAt 16 = .ok (.getfield 21, 3) := by decide +kernel
theorem dX6_missesWatchAt_19 : decode cX6_missesWatchAt 19 = .ok (.isub, 1) := by decide +kernel
theorem dX6_missesWatchAt_20 : decode cX6_missesWatchAt 20 = .ok (.aload_n 0, 1) := by decide +kernel
theorem dX6_missesWatchAt_21 : decode cX6_missesWatchAt 21 = .ok (.getfield 7, 3) := by decide +kernel
theorem dX6_missesWatchAt_24 : decode cX6_missesWatchAt 24 = .ok (.if_icmp .le 7, 3) := by decide +kernel
theorem dX6_missesWatchAt_27 : decode cX6_missesWatchAt 27 = .ok (.iconst 1, 1) := by decide +kernel
theorem dX6_missesWatchAt_28 : decode cX6_missesWatchAt 28 = .ok (.goto 4, 3) := by decide +kernel
theorem dX6_missesWatchAt_31 : decode cX6_missesWatchAt 31 = .ok (.iconst 0, 1) := by decide +kernel
theorem dX6_missesWatchAt_32 : decode cX6_missesWatchAt 32 = .ok (.ireturn, 1) := by decide +kernel
theorem dX6_isLinkedTo_0 : decode cX6_isLinkedTo 0 = .ok (.aload_n 0, 1) := by decide +kernel
theorem dX6_isLinkedTo_1 : decode cX6_isLinkedTo 1 = .ok (.getfield 13, 3) := by decide +kernel
theorem dX6_isLinkedTo_4 : decode cX6_isLinkedTo 4 = .ok (.ifCond .eq 40, 3) := by decide +kernel
theorem dX6_isLinkedTo_7 : decode cX6_isLinkedTo 7 = .ok (.aload_n 1, 1) := by decide +kernel
theorem dX6_isLinkedTo_8 : decode cX6_isLinkedTo 8 = .ok (.getfield 13, 3) := by decide +kernel
theorem dX6_isLinkedTo_11 : decode cX6_isLinkedTo 11 = .ok (.ifCond .eq 33, 3) := by decide +kernel
theorem dX6_isLinkedTo_14 : decode cX6_isLinkedTo 14 = .ok (.aload_n 0, 1) := by decide +kernel
theorem dX6_isLinkedTo_15 : decode cX6_isLinkedTo 15 = .ok (.getfield 24, 3) := by decide +kernel
theorem dX6_isLinkedTo_18 : decode cX6_isLinkedTo 18 = .ok (.aload_n 1, 1) := by decide +kernel
theorem dX6_isLinkedTo_19 : decode cX6_isLinkedTo 19 = .ok (.getfield 24, 3) := by decide +kernel
theorem dX6_isLinkedTo_22 : decode cX6_isLinkedTo 22 = .ok (.isub, 1) := by decide +kernel
theorem dX6_isLinkedTo_23 : decode cX6_isLinkedTo 23 = .ok (.invokestatic 27, 3) := by decide +kernel
theorem dX6_isLinkedTo_26 : decode cX6_isLinkedTo 26 = .ok (.aload_n 0, 1) := by decide +kernel
theorem dX6_isLinkedTo_27 : decode cX6_isLinkedTo 27 = .ok (.getfield 33, 3) := by decide +kernel
theorem dX6_isLinkedTo_30 : decode cX6_isLinkedTo 30 = .ok (.aload_n 1, 1) := by decide +kernel
theorem dX6_isLinkedTo_31 : decode cX6_isLinkedTo 31 = .ok (.getfield 33, 3) := by decide +kernel
theorem dX6_isLinkedTo_34 : decode cX6_isLinkedTo 34 = .ok (.invokestatic 36, 3) := by decide +kernel
theorem dX6_isLinkedTo_37 : decode cX6_isLinkedTo 37 = .ok (.if_icmp .gt 7, 3) := by decide +kernel
theorem dX6_isLinkedTo_40 : decode cX6_isLinkedTo 40 = .ok (.iconst 1, 1) := by decide +kernel
theorem dX6_isLinkedTo_41 : decode cX6_isLinkedTo 41 = .ok (.goto 4, 3) := by decide +kernel
theorem dX6_isLinkedTo_44 : decode cX6_isLinkedTo 44 = .ok (.iconst 0, 1) := by decide +kernel
theorem dX6_isLinkedTo_45 : decode cX6_isLinkedTo 45 = .ok (.ireturn, 1) := by decide +kernel
theorem dX7_init_0 : decode cX7_init 0 = .ok (.aload_n 0, 1) := by decide +kernel
theorem dX7_init_1 : decode cX7_init 1 = .ok (.invokespecial 1, 3) := by decide +kernel
theorem dX7_init_4 : decode cX7_init 4 = .ok (.aload_n 0, 1) := by decide +kernel
theorem dX7_init_5 : decode cX7_init 5 = .ok (.new 7, 3) := by decide +kernel
theorem dX7_init_8 : decode cX7_init 8 = .ok (.dup, 1) := by decide +kernel
theorem dX7_init_9 : decode cX7_init 9 = .ok (.invokespecial 9, 3) := by decide +kernel
theorem dX7_init_12 : decode cX7_init 12 = .ok (.putfield 10, 3) := by decide +kernel
theorem dX7_init_15 : decode cX7_init 15 = .ok (.aload_n 0, 1) := by decide +kernel
theorem dX7_init_16 : decode cX7_init 16 = .ok (.new 16, 3) := by decide +kernel
theorem dX7_init_19 : decode cX7_init 19 = .ok (.dup, 1) := by decide +kernel
theorem dX7_init_20 : decode cX7_init 20 = .ok (.invokespecial 18, 3) := by decide +kernel
theorem dX7_init_23 : decode cX7_init 23 = .ok (.putfield 19, 3) := by decide +kernel
theorem dX7_init_26 : decode cX7_init 26 = .ok (.aload_n 0, 1) := by decide +kernel
theorem dX7_init_27 : decode cX7_init 27 = .ok (.new 23, 3) := by decide +kernel
theorem dX7_init_30 : decode cX7_init 30 = .ok (.dup, 1) := by decide +kernel
theorem dX7_init_31 : decode cX7_init 31 = .ok (.invokespecial 25, 3) := by decide +kernel
theorem dX7_init_34 : decode cX7_init 34 = .ok (.putfield 26, 3) := by decide +kernel
theorem dX7_init_37 : decode cX7_init 37 = .ok (.aload_n 0, 1) := by decide +kernel
theorem dX7_init_38 : decode cX7_init 38 = .ok (.new 30, 3) := by decide +kernel
theorem dX7_init_41 : decode cX7_init 41 = .ok (.dup, 1) := by decide +kernel
theorem dX7_init_42 : decode cX7_init 42 = .ok (.invokespecial 32, 3) := by decide +kernel
theorem dX7_init_45 : decode cX7_init 45 = .ok (.putfield 33, 3) := by decide +kernel
theorem dX7_init_48 : decode cX7_init 48 = .ok (.aload_n 0, 1) := by decide +kernel
theorem dX7_init_49 : decode cX7_init 49 = .ok (.sipush 150, 3) := by decide +kernel
theorem dX7_init_52 : decode cX7_init 52 = .ok (.anewarray 37, 3) := by decide +kernel
theorem dX7_init_55 : decode cX7_init 55 = .ok (.putfield 39, 3) := by decide +kernel
theorem dX7_init_58 : decode cX7_init 58 = .ok (.return_, 1) := by decide +kernel
theorem dX7_addStation_0 : decode cX7_addStation 0 = .ok (.iload_n 1, 1) := by decide +kernel
theorem dX7_addStation_1 : decode cX7_addStation 1 = .ok (.invokestatic 43, 3) := by decide +kernel
theorem dX7_addStation_4 : decode cX7_addStation 4 = .ok (.ifCond .eq 14, 3) := by decide +kernel
theorem dX7_addStation_7 : decode cX7_addStation 7 = .ok (.iload_n 2, 1) := by decide +kernel
theorem dX7_addStation_8 : decode cX7_addStation 8 = .ok (.iconst 1, 1) := by decide +kernel
theorem dX7_addStation_9 : decode cX7_addStation 9 = .ok (.if_icmp .lt 9, 3) := by decide +kernel
theorem dX7_addStation_12 : decode cX7_addStation 12 = .ok (.iload_n 2, 1) := by decide +kernel
theorem dX7_addStation_13 : decode cX7_addStation 13 = .ok (.bipush 100, 2) := by decide +kernel
theorem dX7_addStation_15 : decode cX7_addStation 15 = .ok (.if_icmp .le 13, 3) := by decide +kernel
theorem dX7_addStation_18 : decode cX7_addStation 18 = .ok (.new 47, 3) := by decide +kernel
theorem dX7_addStation_21 : decode cX7_addStation 21 = .ok (.dup, 1) := by decide +kernel
theorem dX7_addStation_22 : decode cX7_addStation 22 = .ok (.ldc 49, 2) := by decide +kernel
theorem dX7_addStation_24 : decode cX7_addStation 24 = .ok (.invokespecial 51, 3) := by decide +kernel
theorem dX7_addStation_27 : decode cX7_addStation 27 = .ok (.athrow, 1) := by decide +kernel
theorem dX7_addStation_28 : decode cX7_addStation 28 = .ok (.aload_n 0, 1) := by decide +kernel
theorem dX7_addStation_29 : decode cX7_addStation 29 = .ok (.getfield 10, 3) := by decide +kernel
theorem dX7_addStation_32 : decode cX7_addStation 32 = .ok (.invokevirtual 54, 3) := by decide +kernel
theorem dX7_addStation_35 : decode cX7_addStation 35 = .ok (.ifCond .eq 13, 3) := by decide +kernel
theorem dX7_addStation_38 : decode cX7_addStation 38 = .ok (.new 58, 3) := by decide +kernel
theorem dX7_addStation_41 : decode cX7_addStation 41 = .ok (.dup, 1) := by decide +kernel
theorem dX7_addStation_42 : decode cX7_addStation 42 = .ok (.ldc 60, 2) := by decide +kernel
theorem dX7_addStation_44 : decode cX7_addStation 44 = .ok (.invokespecial 62, 3) := by decide +kernel
theorem dX7_addStation_47 : decode cX7_addStation 47 = .ok (.athrow, 1) := by decide +kernel
theorem dX7_addStation_48 : decode cX7_addStation 48 = .ok (.aload_n 0, 1) := by decide +kernel
theorem dX7_addStation_49 : decode cX7_addStation 49 = .ok (.getfield 10, 3) := by decide +kernel
theorem dX7_addStation_52 : decode cX7_addStation 52 = .ok (.iload_n 1, 1) := by decide +kernel
theorem dX7_addStation_53 : decode cX7_addStation 53 = .ok (.iload_n 2, 1) := by decide +kernel
theorem dX7_addStation_54 : decode cX7_addStation 54 = .ok (.invokevirtual 63, 3) := by decide +kernel
theorem dX7_addStation_57 : decode cX7_addStation 57 = .ok (.istore_n 3, 1) := by decide +kernel
theorem dX7_addStation_58 : decode cX7_addStation 58 = .ok (.aload_n 0, 1) := by decide +kernel
theorem dX7_addStation_59 : decode cX7_addStation 59 = .ok (.invokevirtual 67, 3) := by decide +kernel
theorem dX7_addStation_62 : decode cX7_addStation 62 = .ok (.iload_n 3, 1) := by decide +kernel
theorem dX7_addStation_63 : decode cX7_addStation 63 = .ok (.ireturn, 1) := by decide +kernel
theorem dX7_move_0 : decode cX7_move 0 = .ok (.aload_n 0, 1) := by decide +kernel
theorem dX7_move_1 : decode cX7_move 1 = .ok (.getfield 10, 3) := by decide +kernel
theorem dX7_move_4 : decode cX7_move 4 = .ok (.iload_n 1, 1) := by decide +kernel
theorem dX7_move_5 : decode cX7_move 5 = .ok (.invokevirtual 70, 3) := by decide +kernel
theorem dX7_move_8 : decode cX7_move 8 = .ok (.astore_n 3, 1) := by decide +kernel
theorem dX7_move_9 : decode cX7_move 9 = .ok (.iload_n 2, 1) := by decide +kernel
theorem dX7_move_10 : decode cX7_move 10 = .ok (.invokestatic 43, 3) := by decide +kernel
theorem dX7_move_13 : decode cX7_move 13 = .ok (.ifCond .ne 13, 3) := by decide +kernel
theorem dX7_move_16 : decode cX7_move 16 = .ok (.new 47, 3) := by decide +kernel
theorem dX7_move_19 : decode cX7_move 19 = .ok (.dup, 1) := by decide +kernel
theorem dX7_move_20 : decode cX7_move 20 = .ok (.ldc 74, 2) := by decide +kernel
theorem dX7_move_22 : decode cX7_move 22 = .ok (.invokespecial 51, 3) := by decide +kernel
theorem dX7_move_25 : decode cX7_move 25 = .ok (.athrow, 1) := by decide +kernel
theorem dX7_move_26 : decode cX7_move 26 = .ok (.aload_n 3, 1) := by decide +kernel
theorem dX7_move_27 : decode cX7_move 27 = .ok (.getfield 76, 3) := by decide +kernel
theorem dX7_move_30 : decode cX7_move 30 = .ok (.istore 4, 2) := by decide +kernel
theorem dX7_move_32 : decode cX7_move 32 = .ok (.aload_n 3, 1) := by decide +kernel
theorem dX7_move_33 : decode cX7_move 33 = .ok (.iload_n 2, 1) := by decide +kernel
theorem dX7_move_34 : decode cX7_move 34 = .ok (.putfield 76, 3) := by decide +kernel
theorem dX7_move_37 : decode cX7_move 37 = .ok (.aload_n 0, 1) := by decide +kernel
theorem dX7_move_38 : decode cX7_move 38 = .ok (.invokevirtual 67, 3) := by decide +kernel
theorem dX7_move_41 : decode cX7_move 41 = .ok (.iload 4, 2) := by decide +kernel
theorem dX7_move_43 : decode cX7_move 43 = .ok (.ireturn, 1) := by decide +kernel
theorem dX7_setOn_0 : decode cX7_setOn 0 = .ok (.aload_n 0, 1) := by decide +kernel
theorem dX7_setOn_1 : decode cX7_setOn 1 = .ok (.getfield 10, 3) := by decide +kernel
theorem dX7_setOn_4 : decode cX7_setOn 4 = .ok (.iload_n 1, 1) := by decide +kernel
theorem dX7_setOn_5 : decode cX7_setOn 5 = .ok (.invokevirtual 70, 3) := by decide +kernel
theorem dX7_setOn_8 : decode cX7_setOn 8 = .ok (.astore_n 3, 1) := by decide +kernel
theorem dX7_setOn_9 : decode cX7_setOn 9 = .ok (.aload_n 3, 1) := by decide +kernel
theorem dX7_setOn_10 : decode cX7_setOn 10 = .ok (.getfield 82, 3) := by decide +kernel
theorem dX7_setOn_13 : decode cX7_setOn 13 = .ok (.istore 4, 2) := by decide +kernel
theorem dX7_setOn_15 : decode cX7_setOn 15 = .ok (.aload_n 3, 1) := by decide +kernel
theorem dX7_setOn_16 : decode cX7_setOn 16 = .ok (.iload_n 2, 1) := by decide +kernel
theorem dX7_setOn_17 : decode cX7_setOn 17 = .ok (.putfield 82, 3) := by decide +kernel
theorem dX7_setOn_20 : decode cX7_setOn 20 = .ok (.aload_n 0, 1) := by decide +kernel
theorem dX7_setOn_21 : decode cX7_setOn 21 = .ok (.getfield 26, 3) := by decide +kernel
theorem dX7_setOn_24 : decode cX7_setOn 24 = .ok (.iload_n 1, 1) := by decide +kernel
theorem dX7_setOn_25 : decode cX7_setOn 25 = .ok (.invokevirtual 86, 3) := by decide +kernel
theorem dX7_setOn_28 : decode cX7_setOn 28 = .ok (.astore 5, 2) := by decide +kernel
theorem dX7_setOn_30 : decode cX7_setOn 30 = .ok (.iload_n 2, 1) := by decide +kernel
theorem dX7_setOn_31 : decode cX7_setOn 31 = .ok (.ifCond .ne 14, 3) := by decide +kernel
theorem dX7_setOn_34 : decode cX7_setOn 34 = .ok (.aload 5, 2) := by decide +kernel
theorem dX7_setOn_36 : decode cX7_setOn 36 = .ok (.ifnull 9, 3) := by decide +kernel
theorem dX7_setOn_39 : decode cX7_setOn 39 = .ok (.aload_n 0, 1) := by decide +kernel
theorem dX7_setOn_40 : decode cX7_setOn 40 = .ok (.aload 5, 2) := by decide +kernel
theorem dX7_setOn_42 : decode cX7_setOn 42 = .ok (.invokevirtual 90, 3) := by decide +kernel
theorem dX7_setOn_45 : decode cX7_setOn 45 = .ok (.aload_n 0, 1) := by decide +kernel
theorem dX7_setOn_46 : decode cX7_setOn 46 = .ok (.invokevirtual 67, 3) := by decide +kernel
theorem dX7_setOn_49 : decode cX7_setOn 49 = .ok (.iload 4, 2) := by decide +kernel
theorem dX7_setOn_51 : decode cX7_setOn 51 = .ok (.ireturn, 1) := by decide +kernel
theorem dX7_stations_0 : decode cX7_stations 0 = .ok (.aload_n 0, 1) := by decide +kernel
theorem dX7_stations_1 : decode cX7_stations 1 = .ok (.getfield 10, 3) := by decide +kernel
theorem dX7_stations_4 : decode cX7_stations 4 = .ok (.getfield 94, 3) := by decide +kernel
theorem dX7_stations_7 : decode cX7_stations 7 = .ok (.ireturn, 1) := by decide +kernel
theorem dX7_placeOf_0 : decode cX7_placeOf 0 = .ok (.aload_n 0, 1) := by decide +kernel
theorem dX7_placeOf_1 : decode cX7_placeOf 1 = .ok (.getfield 10, 3) := by decide +kernel
theorem dX7_placeOf_4 : decode cX7_placeOf 4 = .ok (.iload_n 1, 1) := by decide +kernel
theorem dX7_placeOf_5 : decode cX7_placeOf 5 = .ok (.invokevirtual 70, 3) := by decide +kernel
theorem dX7_placeOf_8 : decode cX7_placeOf 8 = .ok (.getfield 76, 3) := by decide +kernel
theorem dX7_placeOf_11 : decode cX7_placeOf 11 = .ok (.ireturn, 1) := by decide +kernel
theorem dX7_isOn_0 : decode cX7_isOn 0 = .ok (.aload_n 0, 1) := by decide +kernel
theorem dX7_isOn_1 : decode cX7_isOn 1 = .ok (.getfield 10, 3) := by decide +kernel
theorem dX7_isOn_4 : decode cX7_isOn 4 = .ok (.iload_n 1, 1) := by decide +kernel
theorem dX7_isOn_5 : decode cX7_isOn 5 = .ok (.invokevirtual 70, 3) := by decide +kernel
theorem dX7_isOn_8 : decode cX7_isOn 8 = .ok (.getfield 82, 3) := by decide +kernel
theorem dX7_isOn_11 : decode cX7_isOn 11 = .ok (.ireturn, 1) := by decide +kernel
theorem dX7_hears_0 : decode cX7_hears 0 = .ok (.aload_n 0, 1) := by decide +kernel
theorem dX7_hears_1 : decode cX7_hears 1 = .ok (.iload_n 1, 1) := by decide +kernel
theorem dX7_hears_2 : decode cX7_hears 2 = .ok (.iload_n 2, 1) := by decide +kernel
theorem dX7_hears_3 : decode cX7_hears 3 = .ok (.invokevirtual 97, 3) := by decide +kernel
theorem dX7_hears_6 : decode cX7_hears 6 = .ok (.aload_n 0, 1) := by decide +kernel
theorem dX7_hears_7 : decode cX7_hears 7 = .ok (.getfield 10, 3) := by decide +kernel
theorem dX7_hears_10 : decode cX7_hears 10 = .ok (.iload_n 1, 1) := by decide +kernel
theorem dX7_hears_11 : decode cX7_hears 11 = .ok (.iload_n 2, 1) := by decide +kernel
theorem dX7_hears_12 : decode cX7_hears 12 = .ok (.invokevirtual 101, 3) := by decide +kernel
theorem dX7_hears_15 : decode cX7_hears 15 = .ok (.ireturn, 1) := by decide +kernel
theorem dX7_busyWith_0 : decode cX7_busyWith 0 = .ok (.aload_n 0, 1) := by decide +kernel
theorem dX7_busyWith_1 : decode cX7_busyWith 1 = .ok (.getfield 10, 3) := by decide +kernel
theorem dX7_busyWith_4 : decode cX7_busyWith 4 = .ok (.iload_n 1, 1) := by decide +kernel
theorem dX7_busyWith_5 : decode cX7_busyWith 5 = .ok (.invokevirtual 70, 3) := by decide +kernel
theorem dX7_busyWith_8 : decode cX7_busyWith 8 = .ok (.pop, 1) := by decide +kernel
theorem dX7_busyWith_9 : decode cX7_busyWith 9 = .ok (.aload_n 0, 1) := by decide +kernel
theorem dX7_busyWith_10 : decode cX7_busyWith 10 = .ok (.getfield 26, 3) := by decide +kernel
theorem dX7_busyWith_13 : decode cX7_busyWith 13 = .ok (.iload_n 1, 1) := by decide +kernel
theorem dX7_busyWith_14 : decode cX7_busyWith 14 = .ok (.invokevirtual 86, 3) := by decide +kernel
theorem dX7_busyWith_17 : decode cX7_busyWith 17 = .ok (.invokestatic 105, 3) := by decide +kernel
theorem dX7_busyWith_20 : decode cX7_busyWith 20 = .ok (.getfield 109, 3) := by decide +kernel
theorem dX7_busyWith_23 : decode cX7_busyWith 23 = .ok (.ireturn, 1) := by decide +kernel
theorem dX7_relays_0 : decode cX7_relays 0 = .ok (.aload_n 0, 1) := by decide +kernel
theorem dX7_relays_1 : decode cX7_relays 1 = .ok (.iload_n 1, 1) := by decide +kernel
theorem dX7_relays_2 : decode cX7_relays 2 = .ok (.iload_n 2, 1) := by decide +kernel
theorem dX7_relays_3 : decode cX7_relays 3 = .ok (.invokevirtual 97, 3) := by decide +kernel
theorem dX7_relays_6 : decode cX7_relays 6 = .ok (.aload_n 0, 1) := by decide +kernel
theorem dX7_relays_7 : decode cX7_relays 7 = .ok (.getfield 10, 3) := by decide +kernel
theorem dX7_relays_10 : decode cX7_relays 10 = .ok (.iload_n 1, 1) := by decide +kernel
theorem dX7_relays_11 : decode cX7_relays 11 = .ok (.iload_n 2, 1) := by decide +kernel
theorem dX7_relays_12 : decode cX7_relays 12 = .ok (.invokevirtual 112, 3) := by decide +kernel
theorem dX7_relays_15 : decode cX7_relays 15 = .ok (.invokestatic 115, 3) := by decide +kernel
theorem dX7_relays_18 : decode cX7_relays 18 = .ok (.ireturn, 1) := by decide +kernel
theorem dX7_relaysByJoining_0 : decode cX7_relaysByJoining 0 = .ok (.aload_n 0, 1) := by decide +kernel
theorem dX7_relaysByJoining_1 : decode cX7_relaysByJoining 1 = .ok (.iload_n 1, 1) := by decide +kernel
theorem dX7_relaysByJoining_2 : decode cX7_relaysByJoining 2 = .ok (.iload_n 2, 1) := by decide +kernel
theorem dX7_relaysByJoining_3 : decode cX7_relaysByJoining 3 = .ok (.invokevirtual 97, 3) := by decide +kernel
theorem dX7_relaysByJoining_6 : decode cX7_relaysByJoining 6 = .ok (.aload_n 0, 1) := by decide +kernel
theorem dX7_relaysByJoining_7 : decode cX7_relaysByJoining 7 = .ok (.getfield 10, 3) := by decide +kernel
theorem dX7_relaysByJoining_10 : decode cX7_relaysByJoining 10 = .ok (.invokevirtual 119, 3) := by decide +kernel
theorem dX7_relaysByJoining_13 : decode cX7_relaysByJoining 13 = .ok (.aload_n 0, 1) := by decide +kernel
theorem dX7_relaysByJoining_14 : decode cX7_relaysByJoining 14 = .ok (.getfield 10, 3) := by decide +kernel
theorem dX7_relaysByJoining_17 : decode cX7_relaysByJoining 17 = .ok (.iload_n 1, 1) := by decide +kernel
theorem dX7_relaysByJoining_18 : decode cX7_relaysByJoining 18 = .ok (.iload_n 2, 1) := by decide +kernel
theorem dX7_relaysByJoining_19 : decode cX7_relaysByJoining 19 = .ok (.invokevirtual 122, 3) := by decide +kernel
theorem dX7_relaysByJoining_22 : decode cX7_relaysByJoining 22 = .ok (.invokestatic 115, 3) := by decide +kernel
theorem dX7_relaysByJoining_25 : decode cX7_relaysByJoining 25 = .ok (.ireturn, 1) := by decide +kernel
theorem dX7_onWay_0 : decode cX7_onWay 0 = .ok (.aload_n 0, 1) := by decide +kernel
theorem dX7_onWay_1 : decode cX7_onWay 1 = .ok (.iload_n 1, 1) := by decide +kernel
theorem dX7_onWay_2 : decode cX7_onWay 2 = .ok (.iload_n 2, 1) := by decide +kernel
theorem dX7_onWay_3 : decode cX7_onWay 3 = .ok (.invokevirtual 97, 3) := by decide +kernel
theorem dX7_onWay_6 : decode cX7_onWay 6 = .ok (.aload_n 0, 1) := by decide +kernel
theorem dX7_onWay_7 : decode cX7_onWay 7 = .ok (.getfield 10, 3) := by decide +kernel
theorem dX7_onWay_10 : decode cX7_onWay 10 = .ok (.iload_n 1, 1) := by decide +kernel
theorem dX7_onWay_11 : decode cX7_onWay 11 = .ok (.iload_n 2, 1) := by decide +kernel
theorem dX7_onWay_12 : decode cX7_onWay 12 = .ok (.invokevirtual 125, 3) := by decide +kernel
theorem dX7_onWay_15 : decode cX7_onWay 15 = .ok (.istore 4, 2) := by decide +kernel
theorem dX7_onWay_17 : decode cX7_onWay 17 = .ok (.iload_n 3, 1) := by decide +kernel
theorem dX7_onWay_18 : decode cX7_onWay 18 = .ok (.ifCond .lt 9, 3) := by decide +kernel
theorem dX7_onWay_21 : decode cX7_onWay 21 = .ok (.iload_n 3, 1) := by decide +kernel
theorem dX7_onWay_22 : decode cX7_onWay 22 = .ok (.iload 4, 2) := by decide +kernel
theorem dX7_onWay_24 : decode cX7_onWay 24 = .ok (.if_icmp .lt 13, 3) := by decide +kernel
theorem dX7_onWay_27 : decode cX7_onWay 27 = .ok (.new 128, 3) := by decide +kernel
theorem dX7_onWay_30 : decode cX7_onWay 30 = .ok (.dup, 1) := by decide +kernel
theorem dX7_onWay_31 : decode cX7_onWay 31 = .ok (.ldc 130, 2) := by decide +kernel
theorem dX7_onWay_33 : decode cX7_onWay 33 = .ok (.invokespecial 132, 3) := by decide +kernel
theorem dX7_onWay_36 : decode cX7_onWay 36 = .ok (.athrow, 1) := by decide +kernel
theorem dX7_onWay_37 : decode cX7_onWay 37 = .ok (.aload_n 0, 1) := by decide +kernel
theorem dX7_onWay_38 : decode cX7_onWay 38 = .ok (.getfield 10, 3) := by decide +kernel
theorem dX7_onWay_41 : decode cX7_onWay 41 = .ok (.iload_n 3, 1) := by decide +kernel
theorem dX7_onWay_42 : decode cX7_onWay 42 = .ok (.invokevirtual 133, 3) := by decide +kernel
theorem dX7_onWay_45 : decode cX7_onWay 45 = .ok (.ireturn, 1) := by decide +kernel
theorem dX7_call_0 : decode cX7_call 0 = .ok (.aload_n 0, 1) := by decide +kernel
theorem dX7_call_1 : decode cX7_call 1 = .ok (.iload_n 1, 1) := by decide +kernel
theorem dX7_call_2 : decode cX7_call 2 = .ok (.iload_n 2, 1) := by decide +kernel
theorem dX7_call_3 : decode cX7_call 3 = .ok (.invokevirtual 97, 3) := by decide +kernel
theorem dX7_call_6 : decode cX7_call 6 = .ok (.iload_n 3, 1) := by decide +kernel
theorem dX7_call_7 : decode cX7_call 7 = .ok (.invokestatic 136, 3) := by decide +kernel
theorem dX7_call_10 : decode cX7_call 10 = .ok (.iconst (-1), 1) := by decide +kernel
theorem dX7_call_11 : decode cX7_call 11 = .ok (.if_icmp .eq 16, 3) := by decide +kernel
theorem dX7_call_14 : decode cX7_call 14 = .ok (.iload 4, 2) := by decide +kernel
theorem dX7_call_16 : decode cX7_call 16 = .ok (.iconst 1, 1) := by decide +kernel
theorem dX7_call_17 : decode cX7_call 17 = .ok (.if_icmp .lt 10, 3) := by decide +kernel
theorem dX7_call_20 : decode cX7_call 20 = .ok (.iload 4, 2) := by decide +kernel
theorem dX7_call_22 : decode cX7_call 22 = .ok (.bipush 30, 2) := by decide +kernel
theorem dX7_call_24 : decode cX7_call 24 = .ok (.if_icmp .le 13, 3) := by decide +kernel
theorem dX7_call_27 : decode cX7_call 27 = .ok (.new 47, 3) := by decide +kernel
theorem dX7_call_30 : decode cX7_call 30 = .ok (.dup, 1) := by decide +kernel
theorem dX7_call_31 : decode cX7_call 31 = .ok (.ldc 140, 2) := by decide +kernel
theorem dX7_call_33 : decode cX7_call 33 = .ok (.invokespecial 51, 3) := by decide +kernel
theorem dX7_call_36 : decode cX7_call 36 = .ok (.athrow, 1) := by decide +kernel
theorem dX7_call_37 : decode cX7_call 37 = .ok (.aload_n 0, 1) := by decide +kernel
theorem dX7_call_38 : decode cX7_call 38 = .ok (.invokevirtual 142, 3) := by decide +kernel
theorem dX7_call_41 : decode cX7_call 41 = .ok (.ifCond .ne 13, 3) := by decide +kernel
theorem dX7_call_44 : decode cX7_call 44 = .ok (.new 58, 3) := by decide +kernel
theorem dX7_call_47 : decode cX7_call 47 = .ok (.dup, 1) := by decide +kernel
theorem dX7_call_48 : decode cX7_call 48 = .ok (.ldc 145, 2) := by decide +kernel
theorem dX7_call_50 : decode cX7_call 50 = .ok (.invokespecial 62, 3) := by decide +kernel
theorem dX7_call_53 : decode cX7_call 53 = .ok (.athrow, 1) := by decide +kernel
theorem dX7_call_54 : decode cX7_call 54 = .ok (.aload_n 0, 1) := by decide +kernel
theorem dX7_call_55 : decode cX7_call 55 = .ok (.getfield 147, 3) := by decide +kernel
theorem dX7_call_58 : decode cX7_call 58 = .ok (.istore 5, 2) := by decide +kernel
theorem dX7_call_60 : decode cX7_call 60 = .ok (.aload_n 0, 1) := by decide +kernel
theorem dX7_call_61 : decode cX7_call 61 = .ok (.iload_n 1, 1) := by decide +kernel
theorem dX7_call_62 : decode cX7_call 62 = .ok (.iload_n 2, 1) := by decide +kernel
theorem dX7_call_63 : decode cX7_call 63 = .ok (.iload_n 3, 1) := by decide +kernel
theorem dX7_call_64 : decode cX7_call 64 = .ok (.iload 4, 2) := by decide +kernel
theorem dX7_call_66 : decode cX7_call 66 = .ok (.invokevirtual 150, 3) := by decide +kernel
theorem dX7_call_69 : decode cX7_call 69 = .ok (.aload_n 0, 1) := by decide +kernel
theorem dX7_call_70 : decode cX7_call 70 = .ok (.invokevirtual 67, 3) := by decide +kernel
theorem dX7_call_73 : decode cX7_call 73 = .ok (.iload 5, 2) := by decide +kernel
theorem dX7_call_75 : decode cX7_call 75 = .ok (.ireturn, 1) := by decide +kernel
theorem dX7_cancel_0 : decode cX7_cancel 0 = .ok (.aload_n 0, 1) := by decide +kernel
theorem dX7_cancel_1 : decode cX7_cancel 1 = .ok (.iload_n 1, 1) := by decide +kernel
theorem dX7_cancel_2 : decode cX7_cancel 2 = .ok (.invokevirtual 153, 3) := by decide +kernel
theorem dX7_cancel_5 : decode cX7_cancel 5 = .ok (.astore_n 2, 1) := by decide +kernel
theorem dX7_cancel_6 : decode cX7_cancel 6 = .ok (.aload_n 2, 1) := by decide +kernel
theorem dX7_cancel_7 : decode cX7_cancel 7 = .ok (.invokevirtual 156, 3) := by decide +kernel
theorem dX7_cancel_10 : decode cX7_cancel 10 = .ok (.ifCond .ne 13, 3) := by decide +kernel
theorem dX7_cancel_13 : decode cX7_cancel 13 = .ok (.new 58, 3) := by decide +kernel
theorem dX7_cancel_16 : decode cX7_cancel 16 = .ok (.dup, 1) := by decide +kernel
theorem dX7_cancel_17 : decode cX7_cancel 17 = .ok (.ldc 159, 2) := by decide +kernel
theorem dX7_cancel_19 : decode cX7_cancel 19 = .ok (.invokespecial 62, 3) := by decide +kernel
theorem dX7_cancel_22 : decode cX7_cancel 22 = .ok (.athrow, 1) := by decide +kernel
theorem dX7_cancel_23 : decode cX7_cancel 23 = .ok (.aload_n 2, 1) := by decide +kernel
theorem dX7_cancel_24 : decode cX7_cancel 24 = .ok (.getfield 161, 3) := by decide +kernel
theorem dX7_cancel_27 : decode cX7_cancel 27 = .ok (.bipush 115, 2) := by decide +kernel
theorem dX7_cancel_29 : decode cX7_cancel 29 = .ok (.if_icmp .ne 14, 3) := by decide +kernel
theorem dX7_cancel_32 : decode cX7_cancel 32 = .ok (.aload_n 0, 1) := by decide +kernel
theorem dX7_cancel_33 : decode cX7_cancel 33 = .ok (.getfield 26, 3) := by decide +kernel
theorem dX7_cancel_36 : decode cX7_cancel 36 = .ok (.aload_n 2, 1) := by decide +kernel
theorem dX7_cancel_37 : decode cX7_cancel 37 = .ok (.invokevirtual 165, 3) := by decide +kernel
theorem dX7_cancel_40 : decode cX7_cancel 40 = .ok (.goto 11, 3) := by decide +kernel
theorem dX7_cancel_43 : decode cX7_cancel 43 = .ok (.aload_n 0, 1) := by decide +kernel
theorem dX7_cancel_44 : decode cX7_cancel 44 = .ok (.getfield 19, 3) := by decide +kernel
theorem dX7_cancel_47 : decode cX7_cancel 47 = .ok (.aload_n 2, 1) := by decide +kernel
theorem dX7_cancel_48 : decode cX7_cancel 48 = .ok (.invokevirtual 168, 3) := by decide +kernel
theorem dX7_cancel_51 : decode cX7_cancel 51 = .ok (.aload_n 2, 1) := by decide +kernel
theorem dX7_cancel_52 : decode cX7_cancel 52 = .ok (.bipush 99, 2) := by decide +kernel
theorem dX7_cancel_54 : decode cX7_cancel 54 = .ok (.putfield 161, 3) := by decide +kernel
theorem dX7_cancel_57 : decode cX7_cancel 57 = .ok (.aload_n 0, 1) := by decide +kernel
theorem dX7_cancel_58 : decode cX7_cancel 58 = .ok (.getfield 33, 3) := by decide +kernel
theorem dX7_cancel_61 : decode cX7_cancel 61 = .ok (.aload_n 0, 1) := by decide +kernel
theorem dX7_cancel_62 : decode cX7_cancel 62 = .ok (.getfield 171, 3) := by decide +kernel
theorem dX7_cancel_65 : decode cX7_cancel 65 = .ok (.bipush 99, 2) := by decide +kernel
theorem dX7_cancel_67 : decode cX7_cancel 67 = .ok (.iload_n 1, 1) := by decide +kernel
theorem dX7_cancel_68 : decode cX7_cancel 68 = .ok (.invokevirtual 174, 3) := by decide +kernel
theorem dX7_cancel_71 : decode cX7_cancel 71 = .ok (.aload_n 0, 1) := by decide +kernel
theorem dX7_cancel_72 : decode cX7_cancel 72 = .ok (.invokevirtual 67, 3) := by decide +kernel
theorem dX7_cancel_75 : decode cX7_cancel 75 = .ok (.aload_n 2, 1) := by decide +kernel
theorem dX7_cancel_76 : decode cX7_cancel 76 = .ok (.getfield 178, 3) := by decide +kernel
theorem dX7_cancel_79 : decode cX7_cancel 79 = .ok (.ireturn, 1) := by decide +kernel
theorem dX7_raise_0 : decode cX7_raise 0 = .ok (.aload_n 0, 1) := by decide +kernel
theorem dX7_raise_1 : decode cX7_raise 1 = .ok (.iload_n 1, 1) := by decide +kernel
theorem dX7_raise_2 : decode cX7_raise 2 = .ok (.invokevirtual 153, 3) := by decide +kernel
theorem dX7_raise_5 : decode cX7_raise 5 = .ok (.astore_n 3, 1) := by decide +kernel
theorem dX7_raise_6 : decode cX7_raise 6 = .ok (.iload_n 2, 1) := by decide +kernel
theorem dX7_raise_7 : decode cX7_raise 7 = .ok (.invokestatic 136, 3) := by decide +kernel
theorem dX7_raise_10 : decode cX7_raise 10 = .ok (.istore 4, 2) := by decide +kernel
theorem dX7_raise_12 : decode cX7_raise 12 = .ok (.iload 4, 2) := by decide +kernel
theorem dX7_raise_14 : decode cX7_raise 14 = .ok (.iconst (-1), 1) := by decide +kernel
theorem dX7_raise_15 : decode cX7_raise 15 = .ok (.if_icmp .eq 8, 3) := by decide +kernel
theorem dX7_raise_18 : decode cX7_raise 18 = .ok (.iload 4, 2) := by decide +kernel
theorem dX7_raise_20 : decode cX7_raise 20 = .ok (.ifCond .ne 13, 3) := by decide +kernel
theorem dX7_raise_23 : decode cX7_raise 23 = .ok (.new 47, 3) := by decide +kernel
theorem dX7_raise_26 : decode cX7_raise 26 = .ok (.dup, 1) := by decide +kernel
theorem dX7_raise_27 : decode cX7_raise 27 = .ok (.ldc 181, 2) := by decide +kernel
theorem dX7_raise_29 : decode cX7_raise 29 = .ok (.invokespecial 51, 3) := by decide +kernel
theorem dX7_raise_32 : decode cX7_raise 32 = .ok (.athrow, 1) := by decide +kernel
theorem dX7_raise_33 : decode cX7_raise 33 = .ok (.aload_n 3, 1) := by decide +kernel
theorem dX7_raise_34 : decode cX7_raise 34 = .ok (.invokevirtual 156, 3) := by decide +kernel
theorem dX7_raise_37 : decode cX7_raise 37 = .ok (.ifCond .eq 12, 3) := by decide +kernel
theorem dX7_raise_40 : decode cX7_raise 40 = .ok (.aload_n 3, 1) := by decide +kernel
theorem dX7_raise_41 : decode cX7_raise 41 = .ok (.getfield 183, 3) := by decide +kernel
theorem dX7_raise_44 : decode cX7_raise 44 = .ok (.iload 4, 2) := by decide +kernel
theorem dX7_raise_46 : decode cX7_raise 46 = .ok (.if_icmp .lt 13, 3) := by decide +kernel
theorem dX7_raise_49 : decode cX7_raise 49 = .ok (.new 58, 3) := by decide +kernel
theorem dX7_raise_52 : decode cX7_raise 52 = .ok (.dup, 1) := by decide +kernel
theorem dX7_raise_53 : decode cX7_raise 53 = .ok (.ldc 186, 2) := by decide +kernel
theorem dX7_raise_55 : decode cX7_raise 55 = .ok (.invokespecial 62, 3) := by decide +kernel
theorem dX7_raise_58 : decode cX7_raise 58 = .ok (.athrow, 1) := by decide +kernel
theorem dX7_raise_59 : decode cX7_raise 59 = .ok (.aload_n 3, 1) := by decide +kernel
theorem dX7_raise_60 : decode cX7_raise 60 = .ok (.getfield 188, 3) := by decide +kernel
theorem dX7_raise_63 : decode cX7_raise 63 = .ok (.istore 5, 2) := by decide +kernel
theorem dX7_raise_65 : decode cX7_raise 65 = .ok (.aload_n 3, 1) := by decide +kernel
theorem dX7_raise_66 : decode cX7_raise 66 = .ok (.getfield 161, 3) := by decide +kernel
theorem dX7_raise_69 : decode cX7_raise 69 = .ok (.bipush 119, 2) := by decide +kernel
theorem dX7_raise_71 : decode cX7_raise 71 = .ok (.if_icmp .ne 27, 3) := by decide +kernel
theorem dX7_raise_74 : decode cX7_raise 74 = .ok (.aload_n 0, 1) := by decide +kernel
theorem dX7_raise_75 : decode cX7_raise 75 = .ok (.getfield 19, 3) := by decide +kernel
theorem dX7_raise_78 : decode cX7_raise 78 = .ok (.aload_n 3, 1) := by decide +kernel
theorem dX7_raise_79 : decode cX7_raise 79 = .ok (.invokevirtual 168, 3) := by decide +kernel
theorem dX7_raise_82 : decode cX7_raise 82 = .ok (.aload_n 3, 1) := by decide +kernel
theorem dX7_raise_83 : decode cX7_raise 83 = .ok (.iload_n 2, 1) := by decide +kernel
theorem dX7_raise_84 : decode cX7_raise 84 = .ok (.invokevirtual 191, 3) := by decide +kernel
theorem dX7_raise_87 : decode cX7_raise 87 = .ok (.aload_n 0, 1) := by decide +kernel
theorem dX7_raise_88 : decode cX7_raise 88 = .ok (.getfield 19, 3) := by decide +kernel
theorem dX7_raise_91 : decode cX7_raise 91 = .ok (.aload_n 3, 1) := by decide +kernel
theorem dX7_raise_92 : decode cX7_raise 92 = .ok (.invokevirtual 195, 3) := by decide +kernel
theorem dX7_raise_95 : decode cX7_raise 95 = .ok (.goto 8, 3) := by decide +kernel
theorem dX7_raise_98 : decode cX7_raise 98 = .ok (.aload_n 3, 1) := by decide +kernel
theorem dX7_raise_99 : decode cX7_raise 99 = .ok (.iload_n 2, 1) := by decide +kernel
theorem dX7_raise_100 : decode cX7_raise 100 = .ok (.invokevirtual 191, 3) := by decide +kernel
theorem dX7_raise_103 : decode cX7_raise 103 = .ok (.aload_n 0, 1) := by decide +kernel
theorem dX7_raise_104 : decode cX7_raise 104 = .ok (.invokevirtual 67, 3) := by decide +kernel
theorem dX7_raise_107 : decode cX7_raise 107 = .ok (.iload 5, 2) := by decide +kernel
theorem dX7_raise_109 : decode cX7_raise 109 = .ok (.ireturn, 1) := by decide +kernel
theorem dX7_stateOf_0 : decode cX7_stateOf 0 = .ok (.aload_n 0, 1) := by decide +kernel
theorem dX7_stateOf_1 : decode cX7_stateOf 1 = .ok (.iload_n 1, 1) := by decide +kernel
theorem dX7_stateOf_2 : decode cX7_stateOf 2 = .ok (.invokevirtual 153, 3) := by decide +kernel
theorem dX7_stateOf_5 : decode cX7_stateOf 5 = .ok (.getfield 161, 3) := by decide +kernel
theorem dX7_stateOf_8 : decode cX7_stateOf 8 = .ok (.ireturn, 1) := by decide +kernel
theorem dX7_urgencyOf_0 : decode cX7_urgencyOf 0 = .ok (.aload_n 0, 1) := by decide +kernel
theorem dX7_urgencyOf_1 : decode cX7_urgencyOf 1 = .ok (.iload_n 1, 1) := by decide +kernel
theorem dX7_urgencyOf_2 : decode cX7_urgencyOf 2 = .ok (.invokevirtual 153, 3) := by decide +kernel
theorem dX7_urgencyOf_5 : decode cX7_urgencyOf 5 = .ok (.getfield 188, 3) := by decide +kernel
theorem dX7_urgencyOf_8 : decode cX7_urgencyOf 8 = .ok (.ireturn, 1) := by decide +kernel
theorem dX7_leftOf_0 : decode cX7_leftOf 0 = .ok (.aload_n 0, 1) := by decide +kernel
theorem dX7_leftOf_1 : decode cX7_leftOf 1 = .ok (.iload_n 1, 1) := by decide +kernel
theorem dX7_leftOf_2 : decode cX7_leftOf 2 = .ok (.invokevirtual 153, 3) := by decide +kernel
theorem dX7_leftOf_5 : decode cX7_leftOf 5 = .ok (.getfield 178, 3) := by decide +kernel
theorem dX7_leftOf_8 : decode cX7_leftOf 8 = .ok (.ireturn, 1) := by decide +kernel
theorem dX7_channelOf_0 : decode cX7_channelOf 0 = .ok (.aload_n 0, 1) := by decide +kernel
theorem dX7_channelOf_1 : decode cX7_channelOf 1 = .ok (.iload_n 1, 1) := by decide +kernel
theorem dX7_channelOf_2 : decode cX7_channelOf 2 = .ok (.invokevirtual 153, 3) := by decide +kernel
theorem dX7_channelOf_5 : decode cX7_channelOf 5 = .ok (.astore_n 2, 1) := by decide +kernel
theorem dX7_channelOf_6 : decode cX7_channelOf 6 = .ok (.aload_n 2, 1) := by decide +kernel
theorem dX7_channelOf_7 : decode cX7_channelOf 7 = .ok (.getfield 161, 3) := by decide +kernel
theorem dX7_channelOf_10 : decode cX7_channelOf 10 = .ok (.bipush 115, 2) := by decide +kernel
theorem dX7_channelOf_12 : decode cX7_channelOf 12 = .ok (.if_icmp .eq 13, 3) := by decide +kernel
theorem dX7_channelOf_15 : decode cX7_channelOf 15 = .ok (.new 58, 3) := by decide +kernel
theorem dX7_channelOf_18 : decode cX7_channelOf 18 = .ok (.dup, 1) := by decide +kernel
theorem dX7_channelOf_19 : decode cX7_channelOf 19 = .ok (.ldc 198, 2) := by decide +kernel
theorem dX7_channelOf_21 : decode cX7_channelOf 21 = .ok (.invokespecial 62, 3) := by decide +kernel
theorem dX7_channelOf_24 : decode cX7_channelOf 24 = .ok (.athrow, 1) := by decide +kernel
theorem dX7_channelOf_25 : decode cX7_channelOf 25 = .ok (.aload_n 2, 1) := by decide +kernel
theorem dX7_channelOf_26 : decode cX7_channelOf 26 = .ok (.getfield 200, 3) := by decide +kernel
theorem dX7_channelOf_29 : decode cX7_channelOf 29 = .ok (.ireturn, 1) := by decide +kernel
theorem dX7_interruptions_0 : decode cX7_interruptions 0 = .ok (.aload_n 0, 1) := by decide +kernel
theorem dX7_interruptions_1 : decode cX7_interruptions 1 = .ok (.iload_n 1, 1) := by decide +kernel
theorem dX7_interruptions_2 : decode cX7_interruptions 2 = .ok (.invokevirtual 153, 3) := by decide +kernel
theorem dX7_interruptions_5 : decode cX7_interruptions 5 = .ok (.getfield 203, 3) := by decide +kernel
theorem dX7_interruptions_8 : decode cX7_interruptions 8 = .ok (.ireturn, 1) := by decide +kernel
theorem dX7_speakerOn_0 : decode cX7_speakerOn 0 = .ok (.iload_n 1, 1) := by decide +kernel
theorem dX7_speakerOn_1 : decode cX7_speakerOn 1 = .ok (.invokestatic 206, 3) := by decide +kernel
theorem dX7_speakerOn_4 : decode cX7_speakerOn 4 = .ok (.aload_n 0, 1) := by decide +kernel
theorem dX7_speakerOn_5 : decode cX7_speakerOn 5 = .ok (.getfield 26, 3) := by decide +kernel
theorem dX7_speakerOn_8 : decode cX7_speakerOn 8 = .ok (.iload_n 1, 1) := by decide +kernel
theorem dX7_speakerOn_9 : decode cX7_speakerOn 9 = .ok (.invokevirtual 210, 3) := by decide +kernel
theorem dX7_speakerOn_12 : decode cX7_speakerOn 12 = .ok (.invokestatic 105, 3) := by decide +kernel
theorem dX7_speakerOn_15 : decode cX7_speakerOn 15 = .ok (.getfield 109, 3) := by decide +kernel
theorem dX7_speakerOn_18 : decode cX7_speakerOn 18 = .ok (.ireturn, 1) := by decide +kernel
theorem dX7_calls_0 : decode cX7_calls 0 = .ok (.aload_n 0, 1) := by decide +kernel
theorem dX7_calls_1 : decode cX7_calls 1 = .ok (.getfield 147, 3) := by decide +kernel
theorem dX7_calls_4 : decode cX7_calls 4 = .ok (.ireturn, 1) := by decide +kernel
theorem dX7_waiting_0 : decode cX7_waiting 0 = .ok (.aload_n 0, 1) := by decide +kernel
theorem dX7_waiting_1 : decode cX7_waiting 1 = .ok (.getfield 19, 3) := by decide +kernel
theorem dX7_waiting_4 : decode cX7_waiting 4 = .ok (.getfield 213, 3) := by decide +kernel
theorem dX7_waiting_7 : decode cX7_waiting 7 = .ok (.ireturn, 1) := by decide +kernel
theorem dX7_inLine_0 : decode cX7_inLine 0 = .ok (.aload_n 0, 1) := by decide +kernel
theorem dX7_inLine_1 : decode cX7_inLine 1 = .ok (.getfield 19, 3) := by decide +kernel
theorem dX7_inLine_4 : decode cX7_inLine 4 = .ok (.iload_n 1, 1) := by decide +kernel
theorem dX7_inLine_5 : decode cX7_inLine 5 = .ok (.invokevirtual 214, 3) := by decide +kernel
theorem dX7_inLine_8 : decode cX7_inLine 8 = .ok (.invokestatic 105, 3) := by decide +kernel
theorem dX7_inLine_11 : decode cX7_inLine 11 = .ok (.getfield 109, 3) := by decide +kernel
theorem dX7_inLine_14 : decode cX7_inLine 14 = .ok (.ireturn, 1) := by decide +kernel
theorem dX7_inLineByCounting_0 : decode cX7_inLineByCounting 0 = .ok (.aload_n 0, 1) := by decide +kernel
theorem dX7_inLineByCounting_1 : decode cX7_inLineByCounting 1 = .ok (.getfield 19, 3) := by decide +kernel
theorem dX7_inLineByCounting_4 : decode cX7_inLineByCounting 4 = .ok (.iload_n 1, 1) := by decide +kernel
theorem dX7_inLineByCounting_5 : decode cX7_inLineByCounting 5 = .ok (.invokevirtual 217, 3) := by decide +kernel
theorem dX7_inLineByCounting_8 : decode cX7_inLineByCounting 8 = .ok (.invokestatic 105, 3) := by decide +kernel
theorem dX7_inLineByCounting_11 : decode cX7_inLineByCounting 11 = .ok (.getfield 109, 3) := by decide +kernel
theorem dX7_inLineByCounting_14 : decode cX7_inLineByCounting 14 = .ok (.ireturn, 1) := by decide +kernel
theorem dX7_pass_0 : decode cX7_pass 0 = .ok (.iload_n 1, 1) := by decide +kernel
theorem dX7_pass_1 : decode cX7_pass 1 = .ok (.iconst 1, 1) := by decide +kernel
theorem dX7_pass_2 : decode cX7_pass 2 = .ok (.if_icmp .lt 9, 3) := by decide +kernel
theorem dX7_pass_5 : decode cX7_pass 5 = .ok (.iload_n 1, 1) := by decide +kernel
theorem dX7_pass_6 : decode cX7_pass 6 = .ok (.bipush 10, 2) := by decide +kernel
theorem dX7_pass_8 : decode cX7_pass 8 = .ok (.if_icmp .le 13, 3) := by decide +kernel
theorem dX7_pass_11 : decode cX7_pass 11 = .ok (.new 47, 3) := by decide +kernel
theorem dX7_pass_14 : decode cX7_pass 14 = .ok (.dup, 1) := by decide +kernel
theorem dX7_pass_15 : decode cX7_pass 15 = .ok (.ldc 220, 2) := by decide +kernel
theorem dX7_pass_17 : decode cX7_pass 17 = .ok (.invokespecial 51, 3) := by decide +kernel
theorem dX7_pass_20 : decode cX7_pass 20 = .ok (.athrow, 1) := by decide +kernel
theorem dX7_pass_21 : decode cX7_pass 21 = .ok (.iconst 0, 1) := by decide +kernel
theorem dX7_pass_22 : decode cX7_pass 22 = .ok (.istore_n 2, 1) := by decide +kernel
theorem dX7_pass_23 : decode cX7_pass 23 = .ok (.iconst 0, 1) := by decide +kernel
theorem dX7_pass_24 : decode cX7_pass 24 = .ok (.istore_n 3, 1) := by decide +kernel
theorem dX7_pass_25 : decode cX7_pass 25 = .ok (.iload_n 3, 1) := by decide +kernel
theorem dX7_pass_26 : decode cX7_pass 26 = .ok (.iload_n 1, 1) := by decide +kernel
theorem dX7_pass_27 : decode cX7_pass 27 = .ok (.if_icmp .ge 51, 3) := by decide +kernel
theorem dX7_pass_30 : decode cX7_pass 30 = .ok (.aload_n 0, 1) := by decide +kernel
theorem dX7_pass_31 : decode cX7_pass 31 = .ok (.dup, 1) := by decide +kernel
theorem dX7_pass_32 : decode cX7_pass 32 = .ok (.getfield 171, 3) := by decide +kernel
theorem dX7_pass_35 : decode cX7_pass 35 = .ok (.iconst 1, 1) := by decide +kernel
theorem dX7_pass_36 : decode cX7_pass 36 = .ok (.iadd, 1) := by decide +kernel
theorem dX7_pass_37 : decode cX7_pass 37 = .ok (.putfield 171, 3) := by decide +kernel
theorem dX7_pass_40 : decode cX7_pass 40 = .ok (.aload_n 0, 1) := by decide +kernel
theorem dX7_pass_41 : decode cX7_pass 41 = .ok (.dup, 1) := by decide +kernel
theorem dX7_pass_42 : decode cX7_pass 42 = .ok (.getfield 222, 3) := by decide +kernel
theorem dX7_pass_45 : decode cX7_pass 45 = .ok (.aload_n 0, 1) := by decide +kernel
theorem dX7_pass_46 : decode cX7_pass 46 = .ok (.getfield 19, 3) := by decide +kernel
theorem dX7_pass_49 : decode cX7_pass 49 = .ok (.getfield 213, 3) := by decide +kernel
theorem dX7_pass_52 : decode cX7_pass 52 = .ok (.i2l, 1) := by decide +kernel
theorem dX7_pass_53 : decode cX7_pass 53 = .ok (.ladd, 1) := by decide +kernel
theorem dX7_pass_54 : decode cX7_pass 54 = .ok (.putfield 222, 3) := by decide +kernel
theorem dX7_pass_57 : decode cX7_pass 57 = .ok (.iload_n 2, 1) := by decide +kernel
theorem dX7_pass_58 : decode cX7_pass 58 = .ok (.aload_n 0, 1) := by decide +kernel
theorem dX7_pass_59 : decode cX7_pass 59 = .ok (.invokevirtual 226, 3) := by decide +kernel
theorem dX7_pass_62 : decode cX7_pass 62 = .ok (.iadd, 1) := by decide +kernel
theorem dX7_pass_63 : decode cX7_pass 63 = .ok (.istore_n 2, 1) := by decide +kernel
theorem dX7_pass_64 : decode cX7_pass 64 = .ok (.aload_n 0, 1) := by decide +kernel
theorem dX7_pass_65 : decode cX7_pass 65 = .ok (.invokevirtual 230, 3) := by decide +kernel
theorem dX7_pass_68 : decode cX7_pass 68 = .ok (.aload_n 0, 1) := by decide +kernel
theorem dX7_pass_69 : decode cX7_pass 69 = .ok (.invokevirtual 67, 3) := by decide +kernel
theorem dX7_pass_72 : decode cX7_pass 72 = .ok (.iinc 3 1, 3) := by decide +kernel
theorem dX7_pass_75 : decode cX7_pass 75 = .ok (.goto (-50), 3) := by decide +kernel
theorem dX7_pass_78 : decode cX7_pass 78 = .ok (.iload_n 2, 1) := by decide +kernel
theorem dX7_pass_79 : decode cX7_pass 79 = .ok (.ireturn, 1) := by decide +kernel
theorem dX7_time_0 : decode cX7_time 0 = .ok (.aload_n 0, 1) := by decide +kernel
theorem dX7_time_1 : decode cX7_time 1 = .ok (.getfield 171, 3) := by decide +kernel
theorem dX7_time_4 : decode cX7_time 4 = .ok (.ireturn, 1) := by decide +kernel
theorem dX7_setWatch_0 : decode cX7_setWatch 0 = .ok (.aload_n 0, 1) := by decide +kernel
theorem dX7_setWatch_1 : decode cX7_setWatch 1 = .ok (.getfield 10, 3) := by decide +kernel
theorem dX7_setWatch_4 : decode cX7_setWatch 4 = .ok (.iload_n 1, 1) := by decide +kernel
theorem dX7_setWatch_5 : decode cX7_setWatch 5 = .ok (.invokevirtual 70, 3) := by decide +kernel
theorem dX7_setWatch_8 : decode cX7_setWatch 8 = .ok (.astore_n 3, 1) := by decide +kernel
theorem dX7_setWatch_9 : decode cX7_setWatch 9 = .ok (.iload_n 2, 1) := by decide +kernel
theorem dX7_setWatch_10 : decode cX7_setWatch 10 = .ok (.ifCond .eq 24, 3) := by decide +kernel
theorem dX7_setWatch_13 : decode cX7_setWatch 13 = .ok (.iload_n 2, 1) := by decide +kernel
theorem dX7_setWatch_14 : decode cX7_setWatch 14 = .ok (.iconst 5, 1) := by decide +kernel
theorem dX7_setWatch_15 : decode cX7_setWatch 15 = .ok (.if_icmp .lt 9, 3) := by decide +kernel
theorem dX7_setWatch_18 : decode cX7_setWatch 18 = .ok (.iload_n 2, 1) := by decide +kernel
theorem dX7_setWatch_19 : decode cX7_setWatch 19 = .ok (.bipush 60, 2) := by decide +kernel
theorem dX7_setWatch_21 : decode cX7_setWatch 21 = .ok (.if_icmp .le 13, 3) := by decide +kernel
theorem dX7_setWatch_24 : decode cX7_setWatch 24 = .ok (.new 47, 3) := by decide +kernel
theorem dX7_setWatch_27 : decode cX7_setWatch 27 = .ok (.dup, 1) := by decide +kernel
theorem dX7_setWatch_28 : decode cX7_setWatch 28 = .ok (.ldc 233, 2) := by decide +kernel
theorem dX7_setWatch_30 : decode cX7_setWatch 30 = .ok (.invokespecial 51, 3) := by decide +kernel
theorem dX7_setWatch_33 : decode cX7_setWatch 33 = .ok (.athrow, 1) := by decide +kernel
theorem dX7_setWatch_34 : decode cX7_setWatch 34 = .ok (.aload_n 3, 1) := by decide +kernel
theorem dX7_setWatch_35 : decode cX7_setWatch 35 = .ok (.getfield 235, 3) := by decide +kernel
theorem dX7_setWatch_38 : decode cX7_setWatch 38 = .ok (.istore 4, 2) := by decide +kernel
theorem dX7_setWatch_40 : decode cX7_setWatch 40 = .ok (.aload_n 3, 1) := by decide +kernel
theorem dX7_setWatch_41 : decode cX7_setWatch 41 = .ok (.iload_n 2, 1) := by decide +kernel
theorem dX7_setWatch_42 : decode cX7_setWatch 42 = .ok (.putfield 235, 3) := by decide +kernel
theorem dX7_setWatch_45 : decode cX7_setWatch 45 = .ok (.aload_n 3, 1) := by decide +kernel
theorem dX7_setWatch_46 : decode cX7_setWatch 46 = .ok (.aload_n 0, 1) := by decide +kernel
theorem dX7_setWatch_47 : decode cX7_setWatch 47 = .ok (.getfield 171, 3) := by decide +kernel
theorem dX7_setWatch_50 : decode cX7_setWatch 50 = .ok (.putfield 238, 3) := by decide +kernel
theorem dX7_setWatch_53 : decode cX7_setWatch 53 = .ok (.iload 4, 2) := by decide +kernel
theorem dX7_setWatch_55 : decode cX7_setWatch 55 = .ok (.ireturn, 1) := by decide +kernel
theorem dX7_report_0 : decode cX7_report 0 = .ok (.aload_n 0, 1) := by decide +kernel
theorem dX7_report_1 : decode cX7_report 1 = .ok (.getfield 10, 3) := by decide +kernel
theorem dX7_report_4 : decode cX7_report 4 = .ok (.iload_n 1, 1) := by decide +kernel
theorem dX7_report_5 : decode cX7_report 5 = .ok (.invokevirtual 70, 3) := by decide +kernel
theorem dX7_report_8 : decode cX7_report 8 = .ok (.astore_n 2, 1) := by decide +kernel
theorem dX7_report_9 : decode cX7_report 9 = .ok (.aload_n 2, 1) := by decide +kernel
theorem dX7_report_10 : decode cX7_report 10 = .ok (.getfield 82, 3) := by decide +kernel
theorem dX7_report_13 : decode cX7_report 13 = .ok (.ifCond .eq 10, 3) := by decide +kernel
theorem dX7_report_16 : decode cX7_report 16 = .ok (.aload_n 2, 1) := by decide +kernel
theorem dX7_report_17 : decode cX7_report 17 = .ok (.invokevirtual 241, 3) := by decide +kernel
theorem dX7_report_20 : decode cX7_report 20 = .ok (.ifCond .ne 13, 3) := by decide +kernel
theorem dX7_report_23 : decode cX7_report 23 = .ok (.new 58, 3) := by decide +kernel
theorem dX7_report_26 : decode cX7_report 26 = .ok (.dup, 1) := by decide +kernel
theorem dX7_report_27 : decode cX7_report 27 = .ok (.ldc 244, 2) := by decide +kernel
theorem dX7_report_29 : decode cX7_report 29 = .ok (.invokespecial 62, 3) := by decide +kernel
theorem dX7_report_32 : decode cX7_report 32 = .ok (.athrow, 1) := by decide +kernel
theorem dX7_report_33 : decode cX7_report 33 = .ok (.aload_n 0, 1) := by decide +kernel
theorem dX7_report_34 : decode cX7_report 34 = .ok (.getfield 171, 3) := by decide +kernel
theorem dX7_report_37 : decode cX7_report 37 = .ok (.aload_n 2, 1) := by decide +kernel
theorem dX7_report_38 : decode cX7_report 38 = .ok (.getfield 238, 3) := by decide +kernel
theorem dX7_report_41 : decode cX7_report 41 = .ok (.isub, 1) := by decide +kernel
theorem dX7_report_42 : decode cX7_report 42 = .ok (.istore_n 3, 1) := by decide +kernel
theorem dX7_report_43 : decode cX7_report 43 = .ok (.aload_n 2, 1) := by decide +kernel
theorem dX7_report_44 : decode cX7_report 44 = .ok (.aload_n 0, 1) := by decide +kernel
theorem dX7_report_45 : decode cX7_report 45 = .ok (.getfield 171, 3) := by decide +kernel
theorem dX7_report_48 : decode cX7_report 48 = .ok (.putfield 238, 3) := by decide +kernel
theorem dX7_report_51 : decode cX7_report 51 = .ok (.iload_n 3, 1) := by decide +kernel
theorem dX7_report_52 : decode cX7_report 52 = .ok (.ireturn, 1) := by decide +kernel
theorem dX7_sinceReport_0 : decode cX7_sinceReport 0 = .ok (.aload_n 0, 1) := by decide +kernel
theorem dX7_sinceReport_1 : decode cX7_sinceReport 1 = .ok (.getfield 10, 3) := by decide +kernel
theorem dX7_sinceReport_4 : decode cX7_sinceReport 4 = .ok (.iload_n 1, 1) := by decide +kernel
theorem dX7_sinceReport_5 : decode cX7_sinceReport 5 = .ok (.invokevirtual 70, 3) := by decide +kernel
theorem dX7_sinceReport_8 : decode cX7_sinceReport 8 = .ok (.astore_n 2, 1) := by decide +kernel
theorem dX7_sinceReport_9 : decode cX7_sinceReport 9 = .ok (.aload_n 2, 1) := by decide +kernel
theorem dX7_sinceReport_10 : decode cX7_sinceReport 10 = .ok (.invokevirtual 241, 3) := by decide +kernel
theorem dX7_sinceReport_13 : decode cX7_sinceReport 13 = .ok (.ifCond .ne 13, 3) := by decide +kernel
theorem dX7_sinceReport_16 : decode cX7_sinceReport 16 = .ok (.new 58, 3) := by decide +kernel
theorem dX7_sinceReport_19 : decode cX7_sinceReport 19 = .ok (.dup, 1) := by decide +kernel
theorem dX7_sinceReport_20 : decode cX7_sinceReport 20 = .ok (.ldc 246, 2) := by decide +kernel
theorem dX7_sinceReport_22 : decode cX7_sinceReport 22 = .ok (.invokespecial 62, 3) := by decide +kernel
theorem dX7_sinceReport_25 : decode cX7_sinceReport 25 = .ok (.athrow, 1) := by decide +kernel
theorem dX7_sinceReport_26 : decode cX7_sinceReport 26 = .ok (.aload_n 0, 1) := by decide +kernel
theorem dX7_sinceReport_27 : decode cX7_sinceReport 27 = .ok (.getfield 171, 3) := by decide +kernel
theorem dX7_sinceReport_30 : decode cX7_sinceReport 30 = .ok (.aload_n 2, 1) := by decide +kernel
theorem dX7_sinceReport_31 : decode cX7_sinceReport 31 = .ok (.getfield 238, 3) := by decide +kernel
theorem dX7_sinceReport_34 : decode cX7_sinceReport 34 = .ok (.isub, 1) := by decide +kernel
theorem dX7_sinceReport_35 : decode cX7_sinceReport 35 = .ok (.ireturn, 1) := by decide +kernel
theorem dX7_missed_0 : decode cX7_missed 0 = .ok (.aload_n 0, 1) := by decide +kernel
theorem dX7_missed_1 : decode cX7_missed 1 = .ok (.getfield 10, 3) := by decide +kernel
theorem dX7_missed_4 : decode cX7_missed 4 = .ok (.iload_n 1, 1) := by decide +kernel
theorem dX7_missed_5 : decode cX7_missed 5 = .ok (.invokevirtual 70, 3) := by decide +kernel
theorem dX7_missed_8 : decode cX7_missed 8 = .ok (.getfield 248, 3) := by decide +kernel
theorem dX7_missed_11 : decode cX7_missed 11 = .ok (.ireturn, 1) := by decide +kernel
theorem dX7_logged_0 : decode cX7_logged 0 = .ok (.aload_n 0, 1) := by decide +kernel
theorem dX7_logged_1 : decode cX7_logged 1 = .ok (.getfield 33, 3) := by decide +kernel
theorem dX7_logged_4 : decode cX7_logged 4 = .ok (.getfield 251, 3) := by decide +kernel
theorem dX7_logged_7 : decode cX7_logged 7 = .ok (.ireturn, 1) := by decide +kernel
theorem dX7_logTime_0 : decode cX7_logTime 0 = .ok (.aload_n 0, 1) := by decide +kernel
theorem dX7_logTime_1 : decode cX7_logTime 1 = .ok (.getfield 33, 3) := by decide +kernel
theorem dX7_logTime_4 : decode cX7_logTime 4 = .ok (.iload_n 1, 1) := by decide +kernel
theorem dX7_logTime_5 : decode cX7_logTime 5 = .ok (.invokevirtual 254, 3) := by decide +kernel
theorem dX7_logTime_8 : decode cX7_logTime 8 = .ok (.getfield 258, 3) := by decide +kernel
theorem dX7_logTime_11 : decode cX7_logTime 11 = .ok (.ireturn, 1) := by decide +kernel
theorem dX7_logKind_0 : decode cX7_logKind 0 = .ok (.aload_n 0, 1) := by decide +kernel
theorem dX7_logKind_1 : decode cX7_logKind 1 = .ok (.getfield 33, 3) := by decide +kernel
theorem dX7_logKind_4 : decode cX7_logKind 4 = .ok (.iload_n 1, 1) := by decide +kernel
theorem dX7_logKind_5 : decode cX7_logKind 5 = .ok (.invokevirtual 254, 3) := by decide +kernel
theorem dX7_logKind_8 : decode cX7_logKind 8 = .ok (.getfield 263, 3) := by decide +kernel
theorem dX7_logKind_11 : decode cX7_logKind 11 = .ok (.ireturn, 1) := by decide +kernel
theorem dX7_logNumber_0 : decode cX7_logNumber 0 = .ok (.aload_n 0, 1) := by decide +kernel
theorem dX7_logNumber_1 : decode cX7_logNumber 1 = .ok (.getfield 33, 3) := by decide +kernel
theorem dX7_logNumber_4 : decode cX7_logNumber 4 = .ok (.iload_n 1, 1) := by decide +kernel
theorem dX7_logNumber_5 : decode cX7_logNumber 5 = .ok (.invokevirtual 254, 3) := by decide +kernel
theorem dX7_logNumber_8 : decode cX7_logNumber 8 = .ok (.getfield 266, 3) := by decide +kernel
theorem dX7_logNumber_11 : decode cX7_logNumber 11 = .ok (.ireturn, 1) := by decide +kernel
theorem dX7_waited_0 : decode cX7_waited 0 = .ok (.aload_n 0, 1) := by decide +kernel
theorem dX7_waited_1 : decode cX7_waited 1 = .ok (.getfield 222, 3) := by decide +kernel
theorem dX7_waited_4 : decode cX7_waited 4 = .ok (.lreturn, 1) := by decide +kernel
theorem dX7_meanWait_0 : decode cX7_meanWait 0 = .ok (.aload_n 0, 1) := by decide +kernel
theorem dX7_meanWait_1 : decode cX7_meanWait 1 = .ok (.getfield 267, 3) := by decide +kernel
theorem dX7_meanWait_4 : decode cX7_meanWait 4 = .ok (.ifCond .ne 14, 3) := by decide +kernel
theorem dX7_meanWait_7 : decode cX7_meanWait 7 = .ok (.new 270, 3) := by decide +kernel
theorem dX7_meanWait_10 : decode cX7_meanWait 10 = .ok (.dup, 1) := by decide +kernel
theorem dX7_meanWait_11 : decode cX7_meanWait 11 = .ok (.ldc_w 272, 3) := by decide +kernel
theorem dX7_meanWait_14 : decode cX7_meanWait 14 = .ok (.invokespecial 274, 3) := by decide +kernel
theorem dX7_meanWait_17 : decode cX7_meanWait 17 = .ok (.athrow, 1) := by decide +kernel
theorem dX7_meanWait_18 : decode cX7_meanWait 18 = .ok (.aload_n 0, 1) := by decide +kernel
theorem dX7_meanWait_19 : decode cX7_meanWait 19 = .ok (.getfield 275, 3) := by decide +kernel
theorem dX7_meanWait_22 : decode cX7_meanWait 22 = .ok (.l2d, 1) := by decide +kernel
theorem dX7_meanWait_23 : decode cX7_meanWait 23 = .ok (.aload_n 0, 1) := by decide +kernel
theorem dX7_meanWait_24 : decode cX7_meanWait 24 = .ok (.getfield 267, 3) := by decide +kernel
theorem dX7_meanWait_27 : decode cX7_meanWait 27 = .ok (.i2d, 1) := by decide +kernel
theorem dX7_meanWait_28 : decode cX7_meanWait 28 = .ok (.ddiv, 1) := by decide +kernel
theorem dX7_meanWait_29 : decode cX7_meanWait 29 = .ok (.dreturn, 1) := by decide +kernel
theorem dX7_channelShare_0 : decode cX7_channelShare 0 = .ok (.iload_n 1, 1) := by decide +kernel
theorem dX7_channelShare_1 : decode cX7_channelShare 1 = .ok (.invokestatic 206, 3) := by decide +kernel
theorem dX7_channelShare_4 : decode cX7_channelShare 4 = .ok (.aload_n 0, 1) := by decide +kernel
theorem dX7_channelShare_5 : decode cX7_channelShare 5 = .ok (.getfield 171, 3) := by decide +kernel
theorem dX7_channelShare_8 : decode cX7_channelShare 8 = .ok (.ifCond .ne 14, 3) := by decide +kernel
theorem dX7_channelShare_11 : decode cX7_channelShare 11 = .ok (.new 270, 3) := by decide +kernel
theorem dX7_channelShare_14 : decode cX7_channelShare 14 = .ok (.dup, 1) := by decide +kernel
theorem dX7_channelShare_15 : decode cX7_channelShare 15 = .ok (.ldc_w 278, 3) := by decide +kernel
theorem dX7_channelShare_18 : decode cX7_channelShare 18 = .ok (.invokespecial 274, 3) := by decide +kernel
theorem dX7_channelShare_21 : decode cX7_channelShare 21 = .ok (.athrow, 1) := by decide +kernel
theorem dX7_channelShare_22 : decode cX7_channelShare 22 = .ok (.aload_n 0, 1) := by decide +kernel
theorem dX7_channelShare_23 : decode cX7_channelShare 23 = .ok (.getfield 26, 3) := by decide +kernel
theorem dX7_channelShare_26 : decode cX7_channelShare 26 = .ok (.iload_n 1, 1) := by decide +kernel
theorem dX7_channelShare_27 : decode cX7_channelShare 27 = .ok (.invokevirtual 280, 3) := by decide +kernel
theorem dX7_channelShare_30 : decode cX7_channelShare 30 = .ok (.i2f, 1) := by decide +kernel
theorem dX7_channelShare_31 : decode cX7_channelShare 31 = .ok (.aload_n 0, 1) := by decide +kernel
theorem dX7_channelShare_32 : decode cX7_channelShare 32 = .ok (.getfield 171, 3) := by decide +kernel
theorem dX7_channelShare_35 : decode cX7_channelShare 35 = .ok (.i2f, 1) := by decide +kernel
theorem dX7_channelShare_36 : decode cX7_channelShare 36 = .ok (.fdiv, 1) := by decide +kernel
theorem dX7_channelShare_37 : decode cX7_channelShare 37 = .ok (.freturn, 1) := by decide +kernel
theorem dX7_isInOrder_0 : decode cX7_isInOrder 0 = .ok (.aload_n 0, 1) := by decide +kernel
theorem dX7_isInOrder_1 : decode cX7_isInOrder 1 = .ok (.invokevirtual 283, 3) := by decide +kernel
theorem dX7_isInOrder_4 : decode cX7_isInOrder 4 = .ok (.ifCond .eq 47, 3) := by decide +kernel
theorem dX7_isInOrder_7 : decode cX7_isInOrder 7 = .ok (.aload_n 0, 1) := by decide +kernel
theorem dX7_isInOrder_8 : decode cX7_isInOrder 8 = .ok (.getfield 26, 3) := by decide +kernel
theorem dX7_isInOrder_11 : decode cX7_isInOrder 11 = .ok (.invokevirtual 286, 3) := by decide +kernel
theorem dX7_isInOrder_14 : decode cX7_isInOrder 14 = .ok (.ifCond .eq 37, 3) := by decide +kernel
theorem dX7_isInOrder_17 : decode cX7_isInOrder 17 = .ok (.aload_n 0, 1) := by decide +kernel
theorem dX7_isInOrder_18 : decode cX7_isInOrder 18 = .ok (.getfield 26, 3) := by decide +kernel
theorem dX7_isInOrder_21 : decode cX7_isInOrder 21 = .ok (.invokevirtual 289, 3) := by decide +kernel
theorem dX7_isInOrder_24 : decode cX7_isInOrder 24 = .ok (.ifCond .eq 27, 3) := by decide +kernel
theorem dX7_isInOrder_27 : decode cX7_isInOrder 27 = .ok (.aload_n 0, 1) := by decide +kernel
theorem dX7_isInOrder_28 : decode cX7_isInOrder 28 = .ok (.getfield 19, 3) := by decide +kernel
theorem dX7_isInOrder_31 : decode cX7_isInOrder 31 = .ok (.invokevirtual 292, 3) := by decide +kernel
theorem dX7_isInOrder_34 : decode cX7_isInOrder 34 = .ok (.ifCond .eq 17, 3) := by decide +kernel
theorem dX7_isInOrder_37 : decode cX7_isInOrder 37 = .ok (.aload_n 0, 1) := by decide +kernel
theorem dX7_isInOrder_38 : decode cX7_isInOrder 38 = .ok (.getfield 10, 3) := by decide +kernel
theorem dX7_isInOrder_41 : decode cX7_isInOrder 41 = .ok (.invokevirtual 295, 3) := by decide +kernel
theorem dX7_isInOrder_44 : decode cX7_isInOrder 44 = .ok (.ifCond .eq 7, 3) := by decide +kernel
theorem dX7_isInOrder_47 : decode cX7_isInOrder 47 = .ok (.iconst 1, 1) := by decide +kernel
theorem dX7_isInOrder_48 : decode cX7_isInOrder 48 = .ok (.goto 4, 3) := by decide +kernel
theorem dX7_isInOrder_51 : decode cX7_isInOrder 51 = .ok (.iconst 0, 1) := by decide +kernel
theorem dX7_isInOrder_52 : decode cX7_isInOrder 52 = .ok (.ireturn, 1) := by decide +kernel
theorem dX7_isPlace_0 : decode cX7_isPlace 0 = .ok (.iload_n 0, 1) := by decide +kernel
theorem dX7_isPlace_1 : decode cX7_isPlace 1 = .ok (.ifCond .lt 14, 3) := by decide +kernel
theorem dX7_isPlace_4 : decode cX7_isPlace 4 = .ok (.iload_n 0, 1) := by decide +kernel
theorem dX7_isPlace_5 : decode cX7_isPlace 5 = .ok (.sipush 300, 3) := by decide +kernel
theorem dX7_isPlace_8 : decode cX7_isPlace 8 = .ok (.if_icmp .gt 7, 3) := by decide +kernel
theorem dX7_isPlace_11 : decode cX7_isPlace 11 = .ok (.iconst 1, 1) := by decide +kernel
theorem dX7_isPlace_12 : decode cX7_isPlace 12 = .ok (.goto 4, 3) := by decide +kernel
theorem dX7_isPlace_15 : decode cX7_isPlace 15 = .ok (.iconst 0, 1) := by decide +kernel
theorem dX7_isPlace_16 : decode cX7_isPlace 16 = .ok (.ireturn, 1) := by decide +kernel
theorem dX7_checkPair_0 : decode cX7_checkPair 0 = .ok (.aload_n 0, 1) := by decide +kernel
theorem dX7_checkPair_1 : decode cX7_checkPair 1 = .ok (.getfield 10, 3) := by decide +kernel
theorem dX7_checkPair_4 : decode cX7_checkPair 4 = .ok (.iload_n 1, 1) := by decide +kernel
theorem dX7_checkPair_5 : decode cX7_checkPair 5 = .ok (.invokevirtual 70, 3) := by decide +kernel
theorem dX7_checkPair_8 : decode cX7_checkPair 8 = .ok (.pop, 1) := by decide +kernel
theorem dX7_checkPair_9 : decode cX7_checkPair 9 = .ok (.aload_n 0, 1) := by decide +kernel
theorem dX7_checkPair_10 : decode cX7_checkPair 10 = .ok (.getfield 10, 3) := by decide +kernel
theorem dX7_checkPair_13 : decode cX7_checkPair 13 = .ok (.iload_n 2, 1) := by decide +kernel
theorem dX7_checkPair_14 : decode cX7_checkPair 14 = .ok (.invokevirtual 70, 3) := by decide +kernel
theorem dX7_checkPair_17 : decode cX7_checkPair 17 = .ok (.pop, 1) := by decide +kernel
theorem dX7_checkPair_18 : decode cX7_checkPair 18 = .ok (.iload_n 1, 1) := by decide +kernel
theorem dX7_checkPair_19 : decode cX7_checkPair 19 = .ok (.iload_n 2, 1) := by decide +kernel
theorem dX7_checkPair_20 : decode cX7_checkPair 20 = .ok (.if_icmp .ne 14, 3) := by decide +kernel
theorem dX7_checkPair_23 : decode cX7_checkPair 23 = .ok (.new 47, 3) := by decide +kernel
theorem dX7_checkPair_26 : decode cX7_checkPair 26 = .ok (.dup, 1) := by decide +kernel
theorem dX7_checkPair_27 : decode cX7_checkPair 27 = .ok (.ldc_w 298, 3) := by decide +kernel
theorem dX7_checkPair_30 : decode cX7_checkPair 30 = .ok (.invokespecial 51, 3) := by decide +kernel
theorem dX7_checkPair_33 : decode cX7_checkPair 33 = .ok (.athrow, 1) := by decide +kernel
theorem dX7_checkPair_34 : decode cX7_checkPair 34 = .ok (.return_, 1) := by decide +kernel
theorem dX7_checkChannel_0 : decode cX7_checkChannel 0 = .ok (.iload_n 0, 1) := by decide +kernel
theorem dX7_checkChannel_1 : decode cX7_checkChannel 1 = .ok (.ifCond .lt 8, 3) := by decide +kernel
theorem dX7_checkChannel_4 : decode cX7_checkChannel 4 = .ok (.iload_n 0, 1) := by decide +kernel
theorem dX7_checkChannel_5 : decode cX7_checkChannel 5 = .ok (.iconst 3, 1) := by decide +kernel
theorem dX7_checkChannel_6 : decode cX7_checkChannel 6 = .ok (.if_icmp .lt 14, 3) := by decide +kernel
theorem dX7_checkChannel_9 : decode cX7_checkChannel 9 = .ok (.new 300, 3) := by decide +kernel
theorem dX7_checkChannel_12 : decode cX7_checkChannel 12 = .ok (.dup, 1) := by decide +kernel
theorem dX7_checkChannel_13 : decode cX7_checkChannel 13 = .ok (.ldc_w 302, 3) := by decide +kernel
theorem dX7_checkChannel_16 : decode cX7_checkChannel 16 = .ok (.invokespecial 304, 3) := by decide +kernel
theorem dX7_checkChannel_19 : decode cX7_checkChannel 19 = .ok (.athrow, 1) := by decide +kernel
theorem dX7_checkChannel_20 : decode cX7_checkChannel 20 = .ok (.return_, 1) := by decide +kernel
theorem dX7_callNumbered_0 : decode cX7_callNumbered 0 = .ok (.iload_n 1, 1) := by decide +kernel
theorem dX7_callNumbered_1 : decode cX7_callNumbered 1 = .ok (.ifCond .lt 20, 3) := by decide +kernel
theorem dX7_callNumbered_4 : decode cX7_callNumbered 4 = .ok (.iload_n 1, 1) := by decide +kernel
theorem dX7_callNumbered_5 : decode cX7_callNumbered 5 = .ok (.aload_n 0, 1) := by decide +kernel
theorem dX7_callNumbered_6 : decode cX7_callNumbered 6 = .ok (.getfield 147, 3) := by decide +kernel
theorem dX7_callNumbered_9 : decode cX7_callNumbered 9 = .ok (.if_icmp .ge 12, 3) := by decide +kernel
theorem dX7_callNumbered_12 : decode cX7_callNumbered 12 = .ok (.iload_n 1, 1) := by decide +kernel
theorem dX7_callNumbered_13 : decode cX7_callNumbered 13 = .ok (.aload_n 0, 1) := by decide +kernel
theorem dX7_callNumbered_14 : decode cX7_callNumbered 14 = .ok (.getfield 39, 3) := by decide +kernel
theorem dX7_callNumbered_17 : decode cX7_callNumbered 17 = .ok (.arraylength, 1) := by decide +kernel
theorem dX7_callNumbered_18 : decode cX7_callNumbered 18 = .ok (.if_icmp .lt 14, 3) := by decide +kernel
theorem dX7_callNumbered_21 : decode cX7_callNumbered 21 = .ok (.new 128, 3) := by decide +kernel
theorem dX7_callNumbered_24 : decode cX7_callNumbered 24 = .ok (.dup, 1) := by decide +kernel
theorem dX7_callNumbered_25 : decode cX7_callNumbered 25 = .ok (.ldc_w 305, 3) := by decide +kernel
theorem dX7_callNumbered_28 : decode cX7_callNumbered 28 = .ok (.invokespecial 132, 3) := by decide +kernel
theorem dX7_callNumbered_31 : decode cX7_callNumbered 31 = .ok (.athrow, 1) := by decide +kernel
theorem dX7_callNumbered_32 : decode cX7_callNumbered 32 = .ok (.aload_n 0, 1) := by decide +kernel
theorem dX7_callNumbered_33 : decode cX7_callNumbered 33 = .ok (.getfield 39, 3) := by decide +kernel
theorem dX7_callNumbered_36 : decode cX7_callNumbered 36 = .ok (.iload_n 1, 1) := by decide +kernel
theorem dX7_callNumbered_37 : decode cX7_callNumbered 37 = .ok (.aaload, 1) := by decide +kernel
theorem dX7_callNumbered_38 : decode cX7_callNumbered 38 = .ok (.invokestatic 105, 3) := by decide +kernel
theorem dX7_callNumbered_41 : decode cX7_callNumbered 41 = .ok (.areturn, 1) := by decide +kernel
theorem dX7_existing_0 : decode cX7_existing 0 = .ok (.aload_n 0, 1) := by decide +kernel
theorem dX7_existing_1 : decode cX7_existing 1 = .ok (.ifnonnull 14, 3) := by decide +kernel
theorem dX7_existing_4 : decode cX7_existing 4 = .ok (.new 128, 3) := by decide +kernel
theorem dX7_existing_7 : decode cX7_existing 7 = .ok (.dup, 1) := by decide +kernel
theorem dX7_existing_8 : decode cX7_existing 8 = .ok (.ldc_w 305, 3) := by decide +kernel
theorem dX7_existing_11 : decode cX7_existing 11 = .ok (.invokespecial 132, 3) := by decide +kernel
theorem dX7_existing_14 : decode cX7_existing 14 = .ok (.athrow, 1) := by decide +kernel
theorem dX7_existing_15 : decode cX7_existing 15 = .ok (.aload_n 0, 1) := by decide +kernel
theorem dX7_existing_16 : decode cX7_existing 16 = .ok (.areturn, 1) := by decide +kernel
theorem dX7_relaysOfSteps_0 : decode cX7_relaysOfSteps 0 = .ok (.iload_n 0, 1) := by decide +kernel
theorem dX7_relaysOfSteps_1 : decode cX7_relaysOfSteps 1 = .ok (.sipush 1000, 3) := by decide +kernel
theorem dX7_relaysOfSteps_4 : decode cX7_relaysOfSteps 4 = .ok (.if_icmp .lt 14, 3) := by decide +kernel
theorem dX7_relaysOfSteps_7 : decode cX7_relaysOfSteps 7 = .ok (.new 128, 3) := by decide +kernel
theorem dX7_relaysOfSteps_10 : decode cX7_relaysOfSteps 10 = .ok (.dup, 1) := by decide +kernel
theorem dX7_relaysOfSteps_11 : decode cX7_relaysOfSteps 11 = .ok (.ldc_w 307, 3) := by decide +kernel
theorem dX7_relaysOfSteps_14 : decode cX7_relaysOfSteps 14 = .ok (.invokespecial 132, 3) := by decide +kernel
theorem dX7_relaysOfSteps_17 : decode cX7_relaysOfSteps 17 = .ok (.athrow, 1) := by decide +kernel
theorem dX7_relaysOfSteps_18 : decode cX7_relaysOfSteps 18 = .ok (.iload_n 0, 1) := by decide +kernel
theorem dX7_relaysOfSteps_19 : decode cX7_relaysOfSteps 19 = .ok (.iconst 1, 1) := by decide +kernel
theorem dX7_relaysOfSteps_20 : decode cX7_relaysOfSteps 20 = .ok (.isub, 1) := by decide +kernel
theorem dX7_relaysOfSteps_21 : decode cX7_relaysOfSteps 21 = .ok (.ireturn, 1) := by decide +kernel
theorem dX7_weightOf_0 : decode cX7_weightOf 0 = .ok (.iload_n 0, 1) := by decide +kernel
theorem dX7_weightOf_1 : decode cX7_weightOf 1 = .ok (.lookupswitch 51 #[(100, 43), (114, 49), (115, 47), (117, 45)], 43) := by decide +kernel
theorem dX7_weightOf_44 : decode cX7_weightOf 44 = .ok (.iconst 3, 1) := by decide +kernel
theorem dX7_weightOf_45 : decode cX7_weightOf 45 = .ok (.ireturn, 1) := by decide +kernel
theorem dX7_weightOf_46 : decode cX7_weightOf 46 = .ok (.iconst 2, 1) := by decide +kernel
theorem dX7_weightOf_47 : decode cX7_weightOf 47 = .ok (.ireturn, 1) := by decide +kernel
theorem dX7_weightOf_48 : decode cX7_weightOf 48 = .ok (.iconst 1, 1) := by decide +kernel
theorem dX7_weightOf_49 : decode cX7_weightOf 49 = .ok (.ireturn, 1) := by decide +kernel
theorem dX7_weightOf_50 : decode cX7_weightOf 50 = .ok (.iconst 0, 1) := by decide +kernel
theorem dX7_weightOf_51 : decode cX7_weightOf 51 = .ok (.ireturn, 1) := by decide +kernel
theorem dX7_weightOf_52 : decode cX7_weightOf 52 = .ok (.iconst (-1), 1) := by decide +kernel
theorem dX7_weightOf_53 : decode cX7_weightOf 53 = .ok (.ireturn, 1) := by decide +kernel
theorem dX7_hasRoomForACall_0 : decode cX7_hasRoomForACall 0 = .ok (.aload_n 0, 1) := by decide +kernel
theorem dX7_hasRoomForACall_1 : decode cX7_hasRoomForACall 1 = .ok (.getfield 147, 3) := by decide +kernel
theorem dX7_hasRoomForACall_4 : decode cX7_hasRoomForACall 4 = .ok (.aload_n 0, 1) := by decide +kernel
theorem dX7_hasRoomForACall_5 : decode cX7_hasRoomForACall 5 = .ok (.getfield 39, 3) := by decide +kernel
theorem dX7_hasRoomForACall_8 : decode cX7_hasRoomForACall 8 = .ok (.arraylength, 1) := by decide +kernel
theorem dX7_hasRoomForACall_9 : decode cX7_hasRoomForACall 9 = .ok (.if_icmp .ge 27, 3) := by decide +kernel
theorem dX7_hasRoomForACall_12 : decode cX7_hasRoomForACall 12 = .ok (.aload_n 0, 1) := by decide +kernel
theorem dX7_hasRoomForACall_13 : decode cX7_hasRoomForACall 13 = .ok (.getfield 19, 3) := by decide +kernel
theorem dX7_hasRoomForACall_16 : decode cX7_hasRoomForACall 16 = .ok (.getfield 213, 3) := by decide +kernel
theorem dX7_hasRoomForACall_19 : decode cX7_hasRoomForACall 19 = .ok (.aload_n 0, 1) := by decide +kernel
theorem dX7_hasRoomForACall_20 : decode cX7_hasRoomForACall 20 = .ok (.getfield 26, 3) := by decide +kernel
theorem dX7_hasRoomForACall_23 : decode cX7_hasRoomForACall 23 = .ok (.invokevirtual 309, 3) := by decide +kernel
theorem dX7_hasRoomForACall_26 : decode cX7_hasRoomForACall 26 = .ok (.iadd, 1) := by decide +kernel
theorem dX7_hasRoomForACall_27 : decode cX7_hasRoomForACall 27 = .ok (.bipush 24, 2) := by decide +kernel
theorem dX7_hasRoomForACall_29 : decode cX7_hasRoomForACall 29 = .ok (.if_icmp .ge 7, 3) := by decide +kernel
theorem dX7_hasRoomForACall_32 : decode cX7_hasRoomForACall 32 = .ok (.iconst 1, 1) := by decide +kernel
theorem dX7_hasRoomForACall_33 : decode cX7_hasRoomForACall 33 = .ok (.goto 4, 3) := by decide +kernel
theorem dX7_hasRoomForACall_36 : decode cX7_hasRoomForACall 36 = .ok (.iconst 0, 1) := by decide +kernel
theorem dX7_hasRoomForACall_37 : decode cX7_hasRoomForACall 37 = .ok (.ireturn, 1) := by decide +kernel
theorem dX7_place_0 : decode cX7_place 0 = .ok (.aload_n 0, 1) := by decide +kernel
theorem dX7_place_1 : decode cX7_place 1 = .ok (.getfield 147, 3) := by decide +kernel
theorem dX7_place_4 : decode cX7_place 4 = .ok (.aload_n 0, 1) := by decide +kernel
theorem dX7_place_5 : decode cX7_place 5 = .ok (.getfield 39, 3) := by decide +kernel
theorem dX7_place_8 : decode cX7_place 8 = .ok (.arraylength, 1) := by decide +kernel
theorem dX7_place_9 : decode cX7_place 9 = .ok (.if_icmp .lt 4, 3) := by decide +kernel
theorem dX7_place_12 : decode cX7_place 12 = .ok (.return_, 1) := by decide +kernel
theorem dX7_place_13 : decode cX7_place 13 = .ok (.new 37, 3) := by decide +kernel
theorem dX7_place_16 : decode cX7_place 16 = .ok (.dup, 1) := by decide +kernel
theorem dX7_place_17 : decode cX7_place 17 = .ok (.aload_n 0, 1) := by decide +kernel
theorem dX7_place_18 : decode cX7_place 18 = .ok (.getfield 147, 3) := by decide +kernel
theorem dX7_place_21 : decode cX7_place 21 = .ok (.iload_n 1, 1) := by decide +kernel
theorem dX7_place_22 : decode cX7_place 22 = .ok (.iload_n 2, 1) := by decide +kernel
theorem dX7_place_23 : decode cX7_place 23 = .ok (.iload 4, 2) := by decide +kernel
theorem dX7_place_25 : decode cX7_place 25 = .ok (.aload_n 0, 1) := by decide +kernel
theorem dX7_place_26 : decode cX7_place 26 = .ok (.getfield 171, 3) := by decide +kernel
theorem dX7_place_29 : decode cX7_place 29 = .ok (.invokespecial 312, 3) := by decide +kernel
theorem dX7_place_32 : decode cX7_place 32 = .ok (.astore 5, 2) := by decide +kernel
theorem dX7_place_34 : decode cX7_place 34 = .ok (.aload 5, 2) := by decide +kernel
theorem dX7_place_36 : decode cX7_place 36 = .ok (.iload_n 3, 1) := by decide +kernel
theorem dX7_place_37 : decode cX7_place 37 = .ok (.invokevirtual 191, 3) := by decide +kernel
theorem dX7_place_40 : decode cX7_place 40 = .ok (.aload_n 0, 1) := by decide +kernel
theorem dX7_place_41 : decode cX7_place 41 = .ok (.getfield 39, 3) := by decide +kernel
theorem dX7_place_44 : decode cX7_place 44 = .ok (.aload_n 0, 1) := by decide +kernel
theorem dX7_place_45 : decode cX7_place 45 = .ok (.getfield 147, 3) := by decide +kernel
theorem dX7_place_48 : decode cX7_place 48 = .ok (.aload 5, 2) := by decide +kernel
theorem dX7_place_50 : decode cX7_place 50 = .ok (.aastore, 1) := by decide +kernel
theorem dX7_place_51 : decode cX7_place 51 = .ok (.aload_n 0, 1) := by decide +kernel
theorem dX7_place_52 : decode cX7_place 52 = .ok (.dup, 1) := by decide +kernel
theorem dX7_place_53 : decode cX7_place 53 = .ok (.getfield 147, 3) := by decide +kernel
theorem dX7_place_56 : decode cX7_place 56 = .ok (.iconst 1, 1) := by decide +kernel
theorem dX7_place_57 : decode cX7_place 57 = .ok (.iadd, 1) := by decide +kernel
theorem dX7_place_58 : decode cX7_place 58 = .ok (.putfield 147, 3) := by decide +kernel
theorem dX7_place_61 : decode cX7_place 61 = .ok (.aload_n 0, 1) := by decide +kernel
theorem dX7_place_62 : decode cX7_place 62 = .ok (.getfield 19, 3) := by decide +kernel
theorem dX7_place_65 : decode cX7_place 65 = .ok (.aload 5, 2) := by decide +kernel
theorem dX7_place_67 : decode cX7_place 67 = .ok (.invokevirtual 195, 3) := by decide +kernel
theorem dX7_place_70 : decode cX7_place 70 = .ok (.aload_n 0, 1) := by decide +kernel
theorem dX7_place_71 : decode cX7_place 71 = .ok (.getfield 33, 3) := by decide +kernel
theorem dX7_place_74 : decode cX7_place 74 = .ok (.aload_n 0, 1) := by decide +kernel
theorem dX7_place_75 : decode cX7_place 75 = .ok (.getfield 171, 3) := by decide +kernel
theorem dX7_place_78 : decode cX7_place 78 = .ok (.bipush 112, 2) := by decide +kernel
theorem dX7_place_80 : decode cX7_place 80 = .ok (.aload 5, 2) := by decide +kernel
theorem dX7_place_82 : decode cX7_place 82 = .ok (.getfield 109, 3) := by decide +kernel
theorem dX7_place_85 : decode cX7_place 85 = .ok (.invokevirtual 174, 3) := by decide +kernel
theorem dX7_place_88 : decode cX7_place 88 = .ok (.return_, 1) := by decide +kernel
theorem dX7_letSpeak_0 : decode cX7_letSpeak 0 = .ok (.iconst 0, 1) := by decide +kernel
theorem dX7_letSpeak_1 : decode cX7_letSpeak 1 = .ok (.istore_n 1, 1) := by decide +kernel
theorem dX7_letSpeak_2 : decode cX7_letSpeak 2 = .ok (.iconst 0, 1) := by decide +kernel
theorem dX7_letSpeak_3 : decode cX7_letSpeak 3 = .ok (.istore_n 2, 1) := by decide +kernel
theorem dX7_letSpeak_4 : decode cX7_letSpeak 4 = .ok (.iload_n 2, 1) := by decide +kernel
theorem dX7_letSpeak_5 : decode cX7_letSpeak 5 = .ok (.sipush 1000, 3) := by decide +kernel
theorem dX7_letSpeak_8 : decode cX7_letSpeak 8 = .ok (.if_icmp .ge 66, 3) := by decide +kernel
theorem dX7_letSpeak_11 : decode cX7_letSpeak 11 = .ok (.aload_n 0, 1) := by decide +kernel
theorem dX7_letSpeak_12 : decode cX7_letSpeak 12 = .ok (.getfield 19, 3) := by decide +kernel
theorem dX7_letSpeak_15 : decode cX7_letSpeak 15 = .ok (.iload_n 1, 1) := by decide +kernel
theorem dX7_letSpeak_16 : decode cX7_letSpeak 16 = .ok (.invokevirtual 214, 3) := by decide +kernel
theorem dX7_letSpeak_19 : decode cX7_letSpeak 19 = .ok (.astore_n 3, 1) := by decide +kernel
theorem dX7_letSpeak_20 : decode cX7_letSpeak 20 = .ok (.aload_n 3, 1) := by decide +kernel
theorem dX7_letSpeak_21 : decode cX7_letSpeak 21 = .ok (.ifnonnull 4, 3) := by decide +kernel
theorem dX7_letSpeak_24 : decode cX7_letSpeak 24 = .ok (.return_, 1) := by decide +kernel
theorem dX7_letSpeak_25 : decode cX7_letSpeak 25 = .ok (.aload_n 0, 1) := by decide +kernel
theorem dX7_letSpeak_26 : decode cX7_letSpeak 26 = .ok (.getfield 10, 3) := by decide +kernel
theorem dX7_letSpeak_29 : decode cX7_letSpeak 29 = .ok (.aload_n 3, 1) := by decide +kernel
theorem dX7_letSpeak_30 : decode cX7_letSpeak 30 = .ok (.getfield 315, 3) := by decide +kernel
theorem dX7_letSpeak_33 : decode cX7_letSpeak 33 = .ok (.aload_n 3, 1) := by decide +kernel
theorem dX7_letSpeak_34 : decode cX7_letSpeak 34 = .ok (.getfield 318, 3) := by decide +kernel
theorem dX7_letSpeak_37 : decode cX7_letSpeak 37 = .ok (.invokevirtual 321, 3) := by decide +kernel
theorem dX7_letSpeak_40 : decode cX7_letSpeak 40 = .ok (.istore 4, 2) := by decide +kernel
theorem dX7_letSpeak_42 : decode cX7_letSpeak 42 = .ok (.aload_n 0, 1) := by decide +kernel
theorem dX7_letSpeak_43 : decode cX7_letSpeak 43 = .ok (.getfield 26, 3) := by decide +kernel
theorem dX7_letSpeak_46 : decode cX7_letSpeak 46 = .ok (.aload_n 3, 1) := by decide +kernel
theorem dX7_letSpeak_47 : decode cX7_letSpeak 47 = .ok (.iload 4, 2) := by decide +kernel
theorem dX7_letSpeak_49 : decode cX7_letSpeak 49 = .ok (.invokevirtual 324, 3) := by decide +kernel
theorem dX7_letSpeak_52 : decode cX7_letSpeak 52 = .ok (.ifCond .eq 13, 3) := by decide +kernel
theorem dX7_letSpeak_55 : decode cX7_letSpeak 55 = .ok (.aload_n 0, 1) := by decide +kernel
theorem dX7_letSpeak_56 : decode cX7_letSpeak 56 = .ok (.aload_n 3, 1) := by decide +kernel
theorem dX7_letSpeak_57 : decode cX7_letSpeak 57 = .ok (.iload 4, 2) := by decide +kernel
theorem dX7_letSpeak_59 : decode cX7_letSpeak 59 = .ok (.invokevirtual 328, 3) := by decide +kernel
theorem dX7_letSpeak_62 : decode cX7_letSpeak 62 = .ok (.goto 6, 3) := by decide +kernel
theorem dX7_letSpeak_65 : decode cX7_letSpeak 65 = .ok (.iinc 1 1, 3) := by decide +kernel
theorem dX7_letSpeak_68 : decode cX7_letSpeak 68 = .ok (.iinc 2 1, 3) := by decide +kernel
theorem dX7_letSpeak_71 : decode cX7_letSpeak 71 = .ok (.goto (-67), 3) := by decide +kernel
theorem dX7_letSpeak_74 : decode cX7_letSpeak 74 = .ok (.return_, 1) := by decide +kernel
theorem dX7_noWaitingCallCanBegin_0 : decode cX7_noWaitingCallCanBegin 0 = .ok (.iconst 0, 1) := by decide +kernel
theorem dX7_noWaitingCallCanBegin_1 : decode cX7_noWaitingCallCanBegin 1 = .ok (.istore_n 1, 1) := by decide +kernel
theorem dX7_noWaitingCallCanBegin_2 : decode cX7_noWaitingCallCanBegin 2 = .ok (.iload_n 1, 1) := by decide +kernel
theorem dX7_noWaitingCallCanBegin_3 : decode cX7_noWaitingCallCanBegin 3 = .ok (.aload_n 0, 1) := by decide +kernel
theorem dX7_noWaitingCallCanBegin_4 : decode cX7_noWaitingCallCanBegin 4 = .ok (.getfield 19, 3) := by decide +kernel
theorem dX7_noWaitingCallCanBegin_7 : decode cX7_noWaitingCallCanBegin 7 = .ok (.getfield 213, 3) := by decide +kernel
theorem dX7_noWaitingCallCanBegin_10 : decode cX7_noWaitingCallCanBegin 10 = .ok (.if_icmp .ge 50, 3) := by decide +kernel
theorem dX7_noWaitingCallCanBegin_13 : decode cX7_noWaitingCallCanBegin 13 = .ok (.aload_n 0, 1) := by decide +kernel
theorem dX7_noWaitingCallCanBegin_14 : decode cX7_noWaitingCallCanBegin 14 = .ok (.getfield 19, 3) := by decide +kernel
theorem dX7_noWaitingCallCanBegin_17 : decode cX7_noWaitingCallCanBegin 17 = .ok (.iload_n 1, 1) := by decide +kernel
theorem dX7_noWaitingCallCanBegin_18 : decode cX7_noWaitingCallCanBegin 18 = .ok (.invokevirtual 214, 3) := by decide +kernel
theorem dX7_noWaitingCallCanBegin_21 : decode cX7_noWaitingCallCanBegin 21 = .ok (.astore_n 2, 1) := by decide +kernel
theorem dX7_noWaitingCallCanBegin_22 : decode cX7_noWaitingCallCanBegin 22 = .ok (.aload_n 2, 1) := by decide +kernel
theorem dX7_noWaitingCallCanBegin_23 : decode cX7_noWaitingCallCanBegin 23 = .ok (.ifnull 31, 3) := by decide +kernel
theorem dX7_noWaitingCallCanBegin_26 : decode cX7_noWaitingCallCanBegin 26 = .ok (.aload_n 0, 1) := by decide +kernel
theorem dX7_noWaitingCallCanBegin_27 : decode cX7_noWaitingCallCanBegin 27 = .ok (.getfield 26, 3) := by decide +kernel
theorem dX7_noWaitingCallCanBegin_30 : decode cX7_noWaitingCallCanBegin 30 = .ok (.aload_n 2, 1) := by decide +kernel
theorem dX7_noWaitingCallCanBegin_31 : decode cX7_noWaitingCallCanBegin 31 = .ok (.aload_n 0, 1) := by decide +kernel
theorem dX7_noWaitingCallCanBegin_32 : decode cX7_noWaitingCallCanBegin 32 = .ok (.getfield 10, 3) := by decide +kernel
theorem dX7_noWaitingCallCanBegin_35 : decode cX7_noWaitingCallCanBegin 35 = .ok (.aload_n 2, 1) := by decide +kernel
theorem dX7_noWaitingCallCanBegin_36 : decode cX7_noWaitingCallCanBegin 36 = .ok (.getfield 315, 3) := by decide +kernel
theorem dX7_noWaitingCallCanBegin_39 : decode cX7_noWaitingCallCanBegin 39 = .ok (.aload_n 2, 1) := by decide +kernel
theorem dX7_noWaitingCallCanBegin_40 : decode cX7_noWaitingCallCanBegin 40 = .ok (.getfield 318, 3) := by decide +kernel
theorem dX7_noWaitingCallCanBegin_43 : decode cX7_noWaitingCallCanBegin 43 = .ok (.invokevirtual 321, 3) := by decide +kernel
theorem dX7_noWaitingCallCanBegin_46 : decode cX7_noWaitingCallCanBegin 46 = .ok (.invokevirtual 324, 3) := by decide +kernel
theorem dX7_noWaitingCallCanBegin_49 : decode cX7_noWaitingCallCanBegin 49 = .ok (.ifCond .eq 5, 3) := by decide +kernel
theorem dX7_noWaitingCallCanBegin_52 : decode cX7_noWaitingCallCanBegin 52 = .ok (.iconst 0, 1) := by decide +kernel
theorem dX7_noWaitingCallCanBegin_53 : decode cX7_noWaitingCallCanBegin 53 = .ok (.ireturn, 1) := by decide +kernel
theorem dX7_noWaitingCallCanBegin_54 : decode cX7_noWaitingCallCanBegin 54 = .ok (.iinc 1 1, 3) := by decide +kernel
theorem dX7_noWaitingCallCanBegin_57 : decode cX7_noWaitingCallCanBegin 57 = .ok (.goto (-55), 3) := by decide +kernel
theorem dX7_noWaitingCallCanBegin_60 : decode cX7_noWaitingCallCanBegin 60 = .ok (.iconst 1, 1) := by decide +kernel
theorem dX7_noWaitingCallCanBegin_61 : decode cX7_noWaitingCallCanBegin 61 = .ok (.ireturn, 1) := by decide +kernel
theorem dX7_begin_0 : decode cX7_begin 0 = .ok (.iconst 0, 1) := by decide +kernel
theorem dX7_begin_1 : decode cX7_begin 1 = .ok (.istore_n 3, 1) := by decide +kernel
theorem dX7_begin_2 : decode cX7_begin 2 = .ok (.iload_n 3, 1) := by decide +kernel
theorem dX7_begin_3 : decode cX7_begin 3 = .ok (.iconst 3, 1) := by decide +kernel
theorem dX7_begin_4 : decode cX7_begin 4 = .ok (.if_icmp .ge 39, 3) := by decide +kernel
theorem dX7_begin_7 : decode cX7_begin 7 = .ok (.aload_n 0, 1) := by decide +kernel
theorem dX7_begin_8 : decode cX7_begin 8 = .ok (.getfield 26, 3) := by decide +kernel
theorem dX7_begin_11 : decode cX7_begin 11 = .ok (.iload_n 3, 1) := by decide +kernel
theorem dX7_begin_12 : decode cX7_begin 12 = .ok (.invokevirtual 210, 3) := by decide +kernel
theorem dX7_begin_15 : decode cX7_begin 15 = .ok (.astore 4, 2) := by decide +kernel
theorem dX7_begin_17 : decode cX7_begin 17 = .ok (.aload 4, 2) := by decide +kernel
theorem dX7_begin_19 : decode cX7_begin 19 = .ok (.ifnull 18, 3) := by decide +kernel
theorem dX7_begin_22 : decode cX7_begin 22 = .ok (.aload 4, 2) := by decide +kernel
theorem dX7_begin_24 : decode cX7_begin 24 = .ok (.iload_n 2, 1) := by decide +kernel
theorem dX7_begin_25 : decode cX7_begin 25 = .ok (.invokevirtual 332, 3) := by decide +kernel
theorem dX7_begin_28 : decode cX7_begin 28 = .ok (.ifCond .eq 9, 3) := by decide +kernel
theorem dX7_begin_31 : decode cX7_begin 31 = .ok (.aload_n 0, 1) := by decide +kernel
theorem dX7_begin_32 : decode cX7_begin 32 = .ok (.aload 4, 2) := by decide +kernel
theorem dX7_begin_34 : decode cX7_begin 34 = .ok (.invokevirtual 90, 3) := by decide +kernel
theorem dX7_begin_37 : decode cX7_begin 37 = .ok (.iinc 3 1, 3) := by decide +kernel
theorem dX7_begin_40 : decode cX7_begin 40 = .ok (.goto (-38), 3) := by decide +kernel
theorem dX7_begin_43 : decode cX7_begin 43 = .ok (.aload_n 0, 1) := by decide +kernel
theorem dX7_begin_44 : decode cX7_begin 44 = .ok (.getfield 26, 3) := by decide +kernel
theorem dX7_begin_47 : decode cX7_begin 47 = .ok (.aload_n 1, 1) := by decide +kernel
theorem dX7_begin_48 : decode cX7_begin 48 = .ok (.invokevirtual 335, 3) := by decide +kernel
theorem dX7_begin_51 : decode cX7_begin 51 = .ok (.iconst (-1), 1) := by decide +kernel
theorem dX7_begin_52 : decode cX7_begin 52 = .ok (.if_icmp .ne 21, 3) := by decide +kernel
theorem dX7_begin_55 : decode cX7_begin 55 = .ok (.aload_n 0, 1) := by decide +kernel
theorem dX7_begin_56 : decode cX7_begin 56 = .ok (.getfield 26, 3) := by decide +kernel
theorem dX7_begin_59 : decode cX7_begin 59 = .ok (.aload_n 1, 1) := by decide +kernel
theorem dX7_begin_60 : decode cX7_begin 60 = .ok (.invokevirtual 339, 3) := by decide +kernel
theorem dX7_begin_63 : decode cX7_begin 63 = .ok (.astore_n 3, 1) := by decide +kernel
theorem dX7_begin_64 : decode cX7_begin 64 = .ok (.aload_n 3, 1) := by decide +kernel
theorem dX7_begin_65 : decode cX7_begin 65 = .ok (.ifnull 8, 3) := by decide +kernel
theorem dX7_begin_68 : decode cX7_begin 68 = .ok (.aload_n 0, 1) := by decide +kernel
theorem dX7_begin_69 : decode cX7_begin 69 = .ok (.aload_n 3, 1) := by decide +kernel
theorem dX7_begin_70 : decode cX7_begin 70 = .ok (.invokevirtual 90, 3) := by decide +kernel
theorem dX7_begin_73 : decode cX7_begin 73 = .ok (.aload_n 0, 1) := by decide +kernel
theorem dX7_begin_74 : decode cX7_begin 74 = .ok (.getfield 19, 3) := by decide +kernel
theorem dX7_begin_77 : decode cX7_begin 77 = .ok (.aload_n 1, 1) := by decide +kernel
theorem dX7_begin_78 : decode cX7_begin 78 = .ok (.invokevirtual 168, 3) := by decide +kernel
theorem dX7_begin_81 : decode cX7_begin 81 = .ok (.aload_n 0, 1) := by decide +kernel
theorem dX7_begin_82 : decode cX7_begin 82 = .ok (.getfield 26, 3) := by decide +kernel
theorem dX7_begin_85 : decode cX7_begin 85 = .ok (.aload_n 0, 1) := by decide +kernel
theorem dX7_begin_86 : decode cX7_begin 86 = .ok (.getfield 26, 3) := by decide +kernel
theorem dX7_begin_89 : decode cX7_begin 89 = .ok (.aload_n 1, 1) := by decide +kernel
theorem dX7_begin_90 : decode cX7_begin 90 = .ok (.invokevirtual 335, 3) := by decide +kernel
theorem dX7_begin_93 : decode cX7_begin 93 = .ok (.aload_n 1, 1) := by decide +kernel
theorem dX7_begin_94 : decode cX7_begin 94 = .ok (.invokevirtual 342, 3) := by decide +kernel
theorem dX7_begin_97 : decode cX7_begin 97 = .ok (.aload_n 1, 1) := by decide +kernel
theorem dX7_begin_98 : decode cX7_begin 98 = .ok (.bipush 115, 2) := by decide +kernel
theorem dX7_begin_100 : decode cX7_begin 100 = .ok (.putfield 161, 3) := by decide +kernel
theorem dX7_begin_103 : decode cX7_begin 103 = .ok (.aload_n 1, 1) := by decide +kernel
theorem dX7_begin_104 : decode cX7_begin 104 = .ok (.iload_n 2, 1) := by decide +kernel
theorem dX7_begin_105 : decode cX7_begin 105 = .ok (.putfield 346, 3) := by decide +kernel
theorem dX7_begin_108 : decode cX7_begin 108 = .ok (.aload_n 1, 1) := by decide +kernel
theorem dX7_begin_109 : decode cX7_begin 109 = .ok (.aload_n 0, 1) := by decide +kernel
theorem dX7_begin_110 : decode cX7_begin 110 = .ok (.getfield 349, 3) := by decide +kernel
theorem dX7_begin_113 : decode cX7_begin 113 = .ok (.putfield 352, 3) := by decide +kernel
theorem dX7_begin_116 : decode cX7_begin 116 = .ok (.aload_n 0, 1) := by decide +kernel
theorem dX7_begin_117 : decode cX7_begin 117 = .ok (.dup, 1) := by decide +kernel
theorem dX7_begin_118 : decode cX7_begin 118 = .ok (.getfield 349, 3) := by decide +kernel
theorem dX7_begin_121 : decode cX7_begin 121 = .ok (.iconst 1, 1) := by decide +kernel
theorem dX7_begin_122 : decode cX7_begin 122 = .ok (.iadd, 1) := by decide +kernel
theorem dX7_begin_123 : decode cX7_begin 123 = .ok (.putfield 349, 3) := by decide +kernel
theorem dX7_begin_126 : decode cX7_begin 126 = .ok (.aload_n 0, 1) := by decide +kernel
theorem dX7_begin_127 : decode cX7_begin 127 = .ok (.aload_n 1, 1) := by decide +kernel
theorem dX7_begin_128 : decode cX7_begin 128 = .ok (.invokevirtual 355, 3) := by decide +kernel
theorem dX7_begin_131 : decode cX7_begin 131 = .ok (.aload_n 0, 1) := by decide +kernel
theorem dX7_begin_132 : decode cX7_begin 132 = .ok (.getfield 10, 3) := by decide +kernel
theorem dX7_begin_135 : decode cX7_begin 135 = .ok (.aload_n 1, 1) := by decide +kernel
theorem dX7_begin_136 : decode cX7_begin 136 = .ok (.getfield 315, 3) := by decide +kernel
theorem dX7_begin_139 : decode cX7_begin 139 = .ok (.invokevirtual 70, 3) := by decide +kernel
theorem dX7_begin_142 : decode cX7_begin 142 = .ok (.aload_n 0, 1) := by decide +kernel
theorem dX7_begin_143 : decode cX7_begin 143 = .ok (.getfield 171, 3) := by decide +kernel
theorem dX7_begin_146 : decode cX7_begin 146 = .ok (.putfield 238, 3) := by decide +kernel
theorem dX7_begin_149 : decode cX7_begin 149 = .ok (.aload_n 0, 1) := by decide +kernel
theorem dX7_begin_150 : decode cX7_begin 150 = .ok (.getfield 33, 3) := by decide +kernel
theorem dX7_begin_153 : decode cX7_begin 153 = .ok (.aload_n 0, 1) := by decide +kernel
theorem dX7_begin_154 : decode cX7_begin 154 = .ok (.getfield 171, 3) := by decide +kernel
theorem dX7_begin_157 : decode cX7_begin 157 = .ok (.bipush 98, 2) := by decide +kernel
theorem dX7_begin_159 : decode cX7_begin 159 = .ok (.aload_n 1, 1) := by decide +kernel
theorem dX7_begin_160 : decode cX7_begin 160 = .ok (.getfield 109, 3) := by decide +kernel
theorem dX7_begin_163 : decode cX7_begin 163 = .ok (.invokevirtual 174, 3) := by decide +kernel
theorem dX7_begin_166 : decode cX7_begin 166 = .ok (.return_, 1) := by decide +kernel
theorem dX7_countFirstBeginning_0 : decode cX7_countFirstBeginning 0 = .ok (.aload_n 1, 1) := by decide +kernel
theorem dX7_countFirstBeginning_1 : decode cX7_countFirstBeginning 1 = .ok (.getfield 358, 3) := by decide +kernel
theorem dX7_countFirstBeginning_4 : decode cX7_countFirstBeginning 4 = .ok (.ifCond .ne 37, 3) := by decide +kernel
theorem dX7_countFirstBeginning_7 : decode cX7_countFirstBeginning 7 = .ok (.aload_n 1, 1) := by decide +kernel
theorem dX7_countFirstBeginning_8 : decode cX7_countFirstBeginning 8 = .ok (.iconst 1, 1) := by decide +kernel
theorem dX7_countFirstBeginning_9 : decode cX7_countFirstBeginning 9 = .ok (.putfield 358, 3) := by decide +kernel
theorem dX7_countFirstBeginning_12 : decode cX7_countFirstBeginning 12 = .ok (.aload_n 0, 1) := by decide +kernel
theorem dX7_countFirstBeginning_13 : decode cX7_countFirstBeginning 13 = .ok (.dup, 1) := by decide +kernel
theorem dX7_countFirstBeginning_14 : decode cX7_countFirstBeginning 14 = .ok (.getfield 267, 3) := by decide +kernel
theorem dX7_countFirstBeginning_17 : decode cX7_countFirstBeginning 17 = .ok (.iconst 1, 1) := by decide +kernel
theorem dX7_countFirstBeginning_18 : decode cX7_countFirstBeginning 18 = .ok (.iadd, 1) := by decide +kernel
theorem dX7_countFirstBeginning_19 : decode cX7_countFirstBeginning 19 = .ok (.putfield 267, 3) := by decide +kernel
theorem dX7_countFirstBeginning_22 : decode cX7_countFirstBeginning 22 = .ok (.aload_n 0, 1) := by decide +kernel
theorem dX7_countFirstBeginning_23 : decode cX7_countFirstBeginning 23 = .ok (.dup, 1) := by decide +kernel
theorem dX7_countFirstBeginning_24 : decode cX7_countFirstBeginning 24 = .ok (.getfield 275, 3) := by decide +kernel
theorem dX7_countFirstBeginning_27 : decode cX7_countFirstBeginning 27 = .ok (.aload_n 0, 1) := by decide +kernel
theorem dX7_countFirstBeginning_28 : decode cX7_countFirstBeginning 28 = .ok (.getfield 171, 3) := by decide +kernel
theorem dX7_countFirstBeginning_31 : decode cX7_countFirstBeginning 31 = .ok (.aload_n 1, 1) := by decide +kernel
theorem dX7_countFirstBeginning_32 : decode cX7_countFirstBeginning 32 = .ok (.getfield 361, 3) := by decide +kernel
theorem dX7_countFirstBeginning_35 : decode cX7_countFirstBeginning 35 = .ok (.isub, 1) := by decide +kernel
theorem dX7_countFirstBeginning_36 : decode cX7_countFirstBeginning 36 = .ok (.i2l, 1) := by decide +kernel
theorem dX7_countFirstBeginning_37 : decode cX7_countFirstBeginning 37 = .ok (.ladd, 1) := by decide +kernel
theorem dX7_countFirstBeginning_38 : decode cX7_countFirstBeginning 38 = .ok (.putfield 275, 3) := by decide +kernel
theorem dX7_countFirstBeginning_41 : decode cX7_countFirstBeginning 41 = .ok (.return_, 1) := by decide +kernel
theorem dX7_interrupt_0 : decode cX7_interrupt 0 = .ok (.aload_n 0, 1) := by decide +kernel
theorem dX7_interrupt_1 : decode cX7_interrupt 1 = .ok (.getfield 26, 3) := by decide +kernel
theorem dX7_interrupt_4 : decode cX7_interrupt 4 = .ok (.aload_n 1, 1) := by decide +kernel
theorem dX7_interrupt_5 : decode cX7_interrupt 5 = .ok (.invokevirtual 165, 3) := by decide +kernel
theorem dX7_interrupt_8 : decode cX7_interrupt 8 = .ok (.aload_n 1, 1) := by decide +kernel
theorem dX7_interrupt_9 : decode cX7_interrupt 9 = .ok (.bipush 119, 2) := by decide +kernel
theorem dX7_interrupt_11 : decode cX7_interrupt 11 = .ok (.putfield 161, 3) := by decide +kernel
theorem dX7_interrupt_14 : decode cX7_interrupt 14 = .ok (.aload_n 1, 1) := by decide +kernel
theorem dX7_interrupt_15 : decode cX7_interrupt 15 = .ok (.dup, 1) := by decide +kernel
theorem dX7_interrupt_16 : decode cX7_interrupt 16 = .ok (.getfield 203, 3) := by decide +kernel
theorem dX7_interrupt_19 : decode cX7_interrupt 19 = .ok (.iconst 1, 1) := by decide +kernel
theorem dX7_interrupt_20 : decode cX7_interrupt 20 = .ok (.iadd, 1) := by decide +kernel
theorem dX7_interrupt_21 : decode cX7_interrupt 21 = .ok (.putfield 203, 3) := by decide +kernel
theorem dX7_interrupt_24 : decode cX7_interrupt 24 = .ok (.aload_n 0, 1) := by decide +kernel
theorem dX7_interrupt_25 : decode cX7_interrupt 25 = .ok (.getfield 19, 3) := by decide +kernel
theorem dX7_interrupt_28 : decode cX7_interrupt 28 = .ok (.aload_n 1, 1) := by decide +kernel
theorem dX7_interrupt_29 : decode cX7_interrupt 29 = .ok (.invokevirtual 195, 3) := by decide +kernel
theorem dX7_interrupt_32 : decode cX7_interrupt 32 = .ok (.aload_n 0, 1) := by decide +kernel
theorem dX7_interrupt_33 : decode cX7_interrupt 33 = .ok (.getfield 33, 3) := by decide +kernel
theorem dX7_interrupt_36 : decode cX7_interrupt 36 = .ok (.aload_n 0, 1) := by decide +kernel
theorem dX7_interrupt_37 : decode cX7_interrupt 37 = .ok (.getfield 171, 3) := by decide +kernel
theorem dX7_interrupt_40 : decode cX7_interrupt 40 = .ok (.bipush 105, 2) := by decide +kernel
theorem dX7_interrupt_42 : decode cX7_interrupt 42 = .ok (.aload_n 1, 1) := by decide +kernel
theorem dX7_interrupt_43 : decode cX7_interrupt 43 = .ok (.getfield 109, 3) := by decide +kernel
theorem dX7_interrupt_46 : decode cX7_interrupt 46 = .ok (.invokevirtual 174, 3) := by decide +kernel
theorem dX7_interrupt_49 : decode cX7_interrupt 49 = .ok (.return_, 1) := by decide +kernel
theorem dX7_speakAMinute_0 : decode cX7_speakAMinute 0 = .ok (.iconst 0, 1) := by decide +kernel
theorem dX7_speakAMinute_1 : decode cX7_speakAMinute 1 = .ok (.istore_n 1, 1) := by decide +kernel
theorem dX7_speakAMinute_2 : decode cX7_speakAMinute 2 = .ok (.iconst 0, 1) := by decide +kernel
theorem dX7_speakAMinute_3 : decode cX7_speakAMinute 3 = .ok (.istore_n 2, 1) := by decide +kernel
theorem dX7_speakAMinute_4 : decode cX7_speakAMinute 4 = .ok (.iload_n 2, 1) := by decide +kernel
theorem dX7_speakAMinute_5 : decode cX7_speakAMinute 5 = .ok (.iconst 3, 1) := by decide +kernel
theorem dX7_speakAMinute_6 : decode cX7_speakAMinute 6 = .ok (.if_icmp .ge 55, 3) := by decide +kernel
theorem dX7_speakAMinute_9 : decode cX7_speakAMinute 9 = .ok (.aload_n 0, 1) := by decide +kernel
theorem dX7_speakAMinute_10 : decode cX7_speakAMinute 10 = .ok (.getfield 26, 3) := by decide +kernel
theorem dX7_speakAMinute_13 : decode cX7_speakAMinute 13 = .ok (.iload_n 2, 1) := by decide +kernel
theorem dX7_speakAMinute_14 : decode cX7_speakAMinute 14 = .ok (.invokevirtual 210, 3) := by decide +kernel
theorem dX7_speakAMinute_17 : decode cX7_speakAMinute 17 = .ok (.astore_n 3, 1) := by decide +kernel
theorem dX7_speakAMinute_18 : decode cX7_speakAMinute 18 = .ok (.aload_n 3, 1) := by decide +kernel
theorem dX7_speakAMinute_19 : decode cX7_speakAMinute 19 = .ok (.ifnull 36, 3) := by decide +kernel
theorem dX7_speakAMinute_22 : decode cX7_speakAMinute 22 = .ok (.aload_n 0, 1) := by decide +kernel
theorem dX7_speakAMinute_23 : decode cX7_speakAMinute 23 = .ok (.getfield 26, 3) := by decide +kernel
theorem dX7_speakAMinute_26 : decode cX7_speakAMinute 26 = .ok (.iload_n 2, 1) := by decide +kernel
theorem dX7_speakAMinute_27 : decode cX7_speakAMinute 27 = .ok (.invokevirtual 364, 3) := by decide +kernel
theorem dX7_speakAMinute_30 : decode cX7_speakAMinute 30 = .ok (.aload_n 3, 1) := by decide +kernel
theorem dX7_speakAMinute_31 : decode cX7_speakAMinute 31 = .ok (.dup, 1) := by decide +kernel
theorem dX7_speakAMinute_32 : decode cX7_speakAMinute 32 = .ok (.getfield 178, 3) := by decide +kernel
theorem dX7_speakAMinute_35 : decode cX7_speakAMinute 35 = .ok (.iconst 1, 1) := by decide +kernel
theorem dX7_speakAMinute_36 : decode cX7_speakAMinute 36 = .ok (.isub, 1) := by decide +kernel
theorem dX7_speakAMinute_37 : decode cX7_speakAMinute 37 = .ok (.putfield 178, 3) := by decide +kernel
theorem dX7_speakAMinute_40 : decode cX7_speakAMinute 40 = .ok (.aload_n 3, 1) := by decide +kernel
theorem dX7_speakAMinute_41 : decode cX7_speakAMinute 41 = .ok (.getfield 178, 3) := by decide +kernel
theorem dX7_speakAMinute_44 : decode cX7_speakAMinute 44 = .ok (.ifCond .gt 11, 3) := by decide +kernel
theorem dX7_speakAMinute_47 : decode cX7_speakAMinute 47 = .ok (.aload_n 0, 1) := by decide +kernel
theorem dX7_speakAMinute_48 : decode cX7_speakAMinute 48 = .ok (.aload_n 3, 1) := by decide +kernel
theorem dX7_speakAMinute_49 : decode cX7_speakAMinute 49 = .ok (.invokevirtual 367, 3) := by decide +kernel
theorem dX7_speakAMinute_52 : decode cX7_speakAMinute 52 = .ok (.iinc 1 1, 3) := by decide +kernel
theorem dX7_speakAMinute_55 : decode cX7_speakAMinute 55 = .ok (.iinc 2 1, 3) := by decide +kernel
theorem dX7_speakAMinute_58 : decode cX7_speakAMinute 58 = .ok (.goto (-54), 3) := by decide +kernel
theorem dX7_speakAMinute_61 : decode cX7_speakAMinute 61 = .ok (.iload_n 1, 1) := by decide +kernel
theorem dX7_speakAMinute_62 : decode cX7_speakAMinute 62 = .ok (.ireturn, 1) := by decide +kernel
theorem dX7_end_0 : decode cX7_end 0 = .ok (.aload_n 0, 1) := by decide +kernel
theorem dX7_end_1 : decode cX7_end 1 = .ok (.getfield 26, 3) := by decide +kernel
theorem dX7_end_4 : decode cX7_end 4 = .ok (.aload_n 1, 1) := by decide +kernel
theorem dX7_end_5 : decode cX7_end 5 = .ok (.invokevirtual 165, 3) := by decide +kernel
theorem dX7_end_8 : decode cX7_end 8 = .ok (.aload_n 1, 1) := by decide +kernel
theorem dX7_end_9 : decode cX7_end 9 = .ok (.bipush 101, 2) := by decide +kernel
theorem dX7_end_11 : decode cX7_end 11 = .ok (.putfield 161, 3) := by decide +kernel
theorem dX7_end_14 : decode cX7_end 14 = .ok (.aload_n 0, 1) := by decide +kernel
theorem dX7_end_15 : decode cX7_end 15 = .ok (.getfield 33, 3) := by decide +kernel
theorem dX7_end_18 : decode cX7_end 18 = .ok (.aload_n 0, 1) := by decide +kernel
theorem dX7_end_19 : decode cX7_end 19 = .ok (.getfield 171, 3) := by decide +kernel
theorem dX7_end_22 : decode cX7_end 22 = .ok (.bipush 101, 2) := by decide +kernel
theorem dX7_end_24 : decode cX7_end 24 = .ok (.aload_n 1, 1) := by decide +kernel
theorem dX7_end_25 : decode cX7_end 25 = .ok (.getfield 109, 3) := by decide +kernel
theorem dX7_end_28 : decode cX7_end 28 = .ok (.invokevirtual 174, 3) := by decide +kernel
theorem dX7_end_31 : decode cX7_end 31 = .ok (.return_, 1) := by decide +kernel
theorem dX7_lookAtWatches_0 : decode cX7_lookAtWatches 0 = .ok (.iconst 0, 1) := by decide +kernel
theorem dX7_lookAtWatches_1 : decode cX7_lookAtWatches 1 = .ok (.istore_n 1, 1) := by decide +kernel
theorem dX7_lookAtWatches_2 : decode cX7_lookAtWatches 2 = .ok (.iload_n 1, 1) := by decide +kernel
theorem dX7_lookAtWatches_3 : decode cX7_lookAtWatches 3 = .ok (.aload_n 0, 1) := by decide +kernel
theorem dX7_lookAtWatches_4 : decode cX7_lookAtWatches 4 = .ok (.getfield 10, 3) := by decide +kernel
theorem dX7_lookAtWatches_7 : decode cX7_lookAtWatches 7 = .ok (.getfield 94, 3) := by decide +kernel
theorem dX7_lookAtWatches_10 : decode cX7_lookAtWatches 10 = .ok (.if_icmp .ge 81, 3) := by decide +kernel
theorem dX7_lookAtWatches_13 : decode cX7_lookAtWatches 13 = .ok (.aload_n 0, 1) := by decide +kernel
theorem dX7_lookAtWatches_14 : decode cX7_lookAtWatches 14 = .ok (.getfield 10, 3) := by decide +kernel
theorem dX7_lookAtWatches_17 : decode cX7_lookAtWatches 17 = .ok (.iload_n 1, 1) := by decide +kernel
theorem dX7_lookAtWatches_18 : decode cX7_lookAtWatches 18 = .ok (.invokevirtual 70, 3) := by decide +kernel
theorem dX7_lookAtWatches_21 : decode cX7_lookAtWatches 21 = .ok (.astore_n 2, 1) := by decide +kernel
theorem dX7_lookAtWatches_22 : decode cX7_lookAtWatches 22 = .ok (.aload_n 2, 1) := by decide +kernel
theorem dX7_lookAtWatches_23 : decode cX7_lookAtWatches 23 = .ok (.aload_n 0, 1) := by decide +kernel
theorem dX7_lookAtWatches_24 : decode cX7_lookAtWatches 24 = .ok (.getfield 171, 3) := by decide +kernel
theorem dX7_lookAtWatches_27 : decode cX7_lookAtWatches 27 = .ok (.invokevirtual 370, 3) := by decide +kernel
theorem dX7_lookAtWatches_30 : decode cX7_lookAtWatches 30 = .ok (.ifCond .eq 55, 3) := by decide +kernel
theorem dX7_lookAtWatches_33 : decode cX7_lookAtWatches 33 = .ok (.aload_n 2, 1) := by decide +kernel
theorem dX7_lookAtWatches_34 : decode cX7_lookAtWatches 34 = .ok (.dup, 1) := by decide +kernel
theorem dX7_lookAtWatches_35 : decode cX7_lookAtWatches 35 = .ok (.getfield 248, 3) := by decide +kernel
theorem dX7_lookAtWatches_38 : decode cX7_lookAtWatches 38 = .ok (.iconst 1, 1) := by decide +kernel
theorem dX7_lookAtWatches_39 : decode cX7_lookAtWatches 39 = .ok (.iadd, 1) := by decide +kernel
theorem dX7_lookAtWatches_40 : decode cX7_lookAtWatches 40 = .ok (.putfield 248, 3) := by decide +kernel
theorem dX7_lookAtWatches_43 : decode cX7_lookAtWatches 43 = .ok (.aload_n 2, 1) := by decide +kernel
theorem dX7_lookAtWatches_44 : decode cX7_lookAtWatches 44 = .ok (.aload_n 0, 1) := by decide +kernel
theorem dX7_lookAtWatches_45 : decode cX7_lookAtWatches 45 = .ok (.getfield 171, 3) := by decide +kernel
theorem dX7_lookAtWatches_48 : decode cX7_lookAtWatches 48 = .ok (.putfield 238, 3) := by decide +kernel
theorem dX7_lookAtWatches_51 : decode cX7_lookAtWatches 51 = .ok (.aload_n 0, 1) := by decide +kernel
theorem dX7_lookAtWatches_52 : decode cX7_lookAtWatches 52 = .ok (.getfield 33, 3) := by decide +kernel
theorem dX7_lookAtWatches_55 : decode cX7_lookAtWatches 55 = .ok (.aload_n 0, 1) := by decide +kernel
theorem dX7_lookAtWatches_56 : decode cX7_lookAtWatches 56 = .ok (.getfield 171, 3) := by decide +kernel
theorem dX7_lookAtWatches_59 : decode cX7_lookAtWatches 59 = .ok (.bipush 109, 2) := by decide +kernel
theorem dX7_lookAtWatches_61 : decode cX7_lookAtWatches 61 = .ok (.iload_n 1, 1) := by decide +kernel
theorem dX7_lookAtWatches_62 : decode cX7_lookAtWatches 62 = .ok (.invokevirtual 174, 3) := by decide +kernel
theorem dX7_lookAtWatches_65 : decode cX7_lookAtWatches 65 = .ok (.iload_n 1, 1) := by decide +kernel
theorem dX7_lookAtWatches_66 : decode cX7_lookAtWatches 66 = .ok (.ifCond .eq 19, 3) := by decide +kernel
theorem dX7_lookAtWatches_69 : decode cX7_lookAtWatches 69 = .ok (.aload_n 0, 1) := by decide +kernel
theorem dX7_lookAtWatches_70 : decode cX7_lookAtWatches 70 = .ok (.invokevirtual 142, 3) := by decide +kernel
theorem dX7_lookAtWatches_73 : decode cX7_lookAtWatches 73 = .ok (.ifCond .eq 12, 3) := by decide +kernel
theorem dX7_lookAtWatches_76 : decode cX7_lookAtWatches 76 = .ok (.aload_n 0, 1) := by decide +kernel
theorem dX7_lookAtWatches_77 : decode cX7_lookAtWatches 77 = .ok (.iconst 0, 1) := by decide +kernel
theorem dX7_lookAtWatches_78 : decode cX7_lookAtWatches 78 = .ok (.iload_n 1, 1) := by decide +kernel
theorem dX7_lookAtWatches_79 : decode cX7_lookAtWatches 79 = .ok (.bipush 115, 2) := by decide +kernel
theorem dX7_lookAtWatches_81 : decode cX7_lookAtWatches 81 = .ok (.iconst 1, 1) := by decide +kernel
theorem dX7_lookAtWatches_82 : decode cX7_lookAtWatches 82 = .ok (.invokevirtual 150, 3) := by decide +kernel
theorem dX7_lookAtWatches_85 : decode cX7_lookAtWatches 85 = .ok (.iinc 1 1, 3) := by decide +kernel
theorem dX7_lookAtWatches_88 : decode cX7_lookAtWatches 88 = .ok (.goto (-86), 3) := by decide +kernel
theorem dX7_lookAtWatches_91 : decode cX7_lookAtWatches 91 = .ok (.return_, 1) := by decide +kernel
