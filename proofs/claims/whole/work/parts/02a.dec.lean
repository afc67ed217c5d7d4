/-! decode rows -/
theorem dX0_init_0 : decode cX0_init 0 = .ok (.aload_n 0, 1) := by decide +kernel
theorem dX0_init_1 : decode cX0_init 1 = .ok (.invokespecial 3, 3) := by decide +kernel
theorem dX0_init_4 : decode cX0_init 4 = .ok (.aload_n 0, 1) := by decide +kernel
theorem dX0_init_5 : decode cX0_init 5 = .ok (.iconst 3, 1) := by decide +kernel
theorem dX0_init_6 : decode cX0_init 6 = .ok (.putfield 9, 3) := by decide +kernel
theorem dX0_init_9 : decode cX0_init 9 = .ok (.aload_n 0, 1) := by decide +kernel
theorem dX0_init_10 : decode cX0_init 10 = .ok (.sipush 256, 3) := by decide +kernel
theorem dX0_init_13 : decode cX0_init 13 = .ok (.newarray .int, 2) := by decide +kernel
theorem dX0_init_15 : decode cX0_init 15 = .ok (.putfield 15, 3) := by decide +kernel
theorem dX0_init_18 : decode cX0_init 18 = .ok (.return_, 1) := by decide +kernel
theorem dX0_empty_0 : decode cX0_empty 0 = .ok (.aload_n 0, 1) := by decide +kernel
theorem dX0_empty_1 : decode cX0_empty 1 = .ok (.iload_n 1, 1) := by decide +kernel
theorem dX0_empty_2 : decode cX0_empty 2 = .ok (.putfield 9, 3) := by decide +kernel
theorem dX0_empty_5 : decode cX0_empty 5 = .ok (.iconst 0, 1) := by decide +kernel
theorem dX0_empty_6 : decode cX0_empty 6 = .ok (.istore_n 2, 1) := by decide +kernel
theorem dX0_empty_7 : decode cX0_empty 7 = .ok (.iload_n 2, 1) := by decide +kernel
theorem dX0_empty_8 : decode cX0_empty 8 = .ok (.sipush 256, 3) := by decide +kernel
theorem dX0_empty_11 : decode cX0_empty 11 = .ok (.if_icmp .ge 16, 3) := by decide +kernel
theorem dX0_empty_14 : decode cX0_empty 14 = .ok (.aload_n 0, 1) := by decide +kernel
theorem dX0_empty_15 : decode cX0_empty 15 = .ok (.getfield 15, 3) := by decide +kernel
theorem dX0_empty_18 : decode cX0_empty 18 = .ok (.iload_n 2, 1) := by decide +kernel
theorem dX0_empty_19 : decode cX0_empty 19 = .ok (.iconst 0, 1) := by decide +kernel
theorem dX0_empty_20 : decode cX0_empty 20 = .ok (.iastore, 1) := by decide +kernel
theorem dX0_empty_21 : decode cX0_empty 21 = .ok (.iinc 2 1, 3) := by decide +kernel
theorem dX0_empty_24 : decode cX0_empty 24 = .ok (.goto (-17), 3) := by decide +kernel
theorem dX0_empty_27 : decode cX0_empty 27 = .ok (.return_, 1) := by decide +kernel
theorem dX0_copyOf_0 : decode cX0_copyOf 0 = .ok (.aload_n 0, 1) := by decide +kernel
theorem dX0_copyOf_1 : decode cX0_copyOf 1 = .ok (.aload_n 1, 1) := by decide +kernel
theorem dX0_copyOf_2 : decode cX0_copyOf 2 = .ok (.getfield 9, 3) := by decide +kernel
theorem dX0_copyOf_5 : decode cX0_copyOf 5 = .ok (.putfield 9, 3) := by decide +kernel
theorem dX0_copyOf_8 : decode cX0_copyOf 8 = .ok (.aload_n 1, 1) := by decide +kernel
theorem dX0_copyOf_9 : decode cX0_copyOf 9 = .ok (.getfield 15, 3) := by decide +kernel
theorem dX0_copyOf_12 : decode cX0_copyOf 12 = .ok (.iconst 0, 1) := by decide +kernel
theorem dX0_copyOf_13 : decode cX0_copyOf 13 = .ok (.aload_n 0, 1) := by decide +kernel
theorem dX0_copyOf_14 : decode cX0_copyOf 14 = .ok (.getfield 15, 3) := by decide +kernel
theorem dX0_copyOf_17 : decode cX0_copyOf 17 = .ok (.iconst 0, 1) := by decide +kernel
theorem dX0_copyOf_18 : decode cX0_copyOf 18 = .ok (.sipush 256, 3) := by decide +kernel
theorem dX0_copyOf_21 : decode cX0_copyOf 21 = .ok (.invokestatic 19, 3) := by decide +kernel
theorem dX0_copyOf_24 : decode cX0_copyOf 24 = .ok (.return_, 1) := by decide +kernel
theorem dX0_total_0 : decode cX0_total 0 = .ok (.aload_n 0, 1) := by decide +kernel
theorem dX0_total_1 : decode cX0_total 1 = .ok (.getfield 15, 3) := by decide +kernel
theorem dX0_total_4 : decode cX0_total 4 = .ok (.iconst 0, 1) := by decide +kernel
theorem dX0_total_5 : decode cX0_total 5 = .ok (.iaload, 1) := by decide +kernel
theorem dX0_total_6 : decode cX0_total 6 = .ok (.ireturn, 1) := by decide +kernel
theorem dX0_holders_0 : decode cX0_holders 0 = .ok (.aload_n 0, 1) := by decide +kernel
theorem dX0_holders_1 : decode cX0_holders 1 = .ok (.getfield 15, 3) := by decide +kernel
theorem dX0_holders_4 : decode cX0_holders 4 = .ok (.iload_n 1, 1) := by decide +kernel
theorem dX0_holders_5 : decode cX0_holders 5 = .ok (.iaload, 1) := by decide +kernel
theorem dX0_holders_6 : decode cX0_holders 6 = .ok (.ireturn, 1) := by decide +kernel
theorem dX0_isBody_0 : decode cX0_isBody 0 = .ok (.aload_n 0, 1) := by decide +kernel
theorem dX0_isBody_1 : decode cX0_isBody 1 = .ok (.getfield 15, 3) := by decide +kernel
theorem dX0_isBody_4 : decode cX0_isBody 4 = .ok (.iload_n 1, 1) := by decide +kernel
theorem dX0_isBody_5 : decode cX0_isBody 5 = .ok (.iaload, 1) := by decide +kernel
theorem dX0_isBody_6 : decode cX0_isBody 6 = .ok (.ifCond .le 18, 3) := by decide +kernel
theorem dX0_isBody_9 : decode cX0_isBody 9 = .ok (.iload_n 1, 1) := by decide +kernel
theorem dX0_isBody_10 : decode cX0_isBody 10 = .ok (.invokestatic 25, 3) := by decide +kernel
theorem dX0_isBody_13 : decode cX0_isBody 13 = .ok (.aload_n 0, 1) := by decide +kernel
theorem dX0_isBody_14 : decode cX0_isBody 14 = .ok (.getfield 9, 3) := by decide +kernel
theorem dX0_isBody_17 : decode cX0_isBody 17 = .ok (.if_icmp .ne 7, 3) := by decide +kernel
theorem dX0_isBody_20 : decode cX0_isBody 20 = .ok (.iconst 1, 1) := by decide +kernel
theorem dX0_isBody_21 : decode cX0_isBody 21 = .ok (.goto 4, 3) := by decide +kernel
theorem dX0_isBody_24 : decode cX0_isBody 24 = .ok (.iconst 0, 1) := by decide +kernel
theorem dX0_isBody_25 : decode cX0_isBody 25 = .ok (.ireturn, 1) := by decide +kernel
theorem dX0_isWall_0 : decode cX0_isWall 0 = .ok (.aload_n 0, 1) := by decide +kernel
theorem dX0_isWall_1 : decode cX0_isWall 1 = .ok (.getfield 15, 3) := by decide +kernel
theorem dX0_isWall_4 : decode cX0_isWall 4 = .ok (.iload_n 1, 1) := by decide +kernel
theorem dX0_isWall_5 : decode cX0_isWall 5 = .ok (.iaload, 1) := by decide +kernel
theorem dX0_isWall_6 : decode cX0_isWall 6 = .ok (.iconst 1, 1) := by decide +kernel
theorem dX0_isWall_7 : decode cX0_isWall 7 = .ok (.if_icmp .ne 20, 3) := by decide +kernel
theorem dX0_isWall_10 : decode cX0_isWall 10 = .ok (.iload_n 1, 1) := by decide +kernel
theorem dX0_isWall_11 : decode cX0_isWall 11 = .ok (.invokestatic 25, 3) := by decide +kernel
theorem dX0_isWall_14 : decode cX0_isWall 14 = .ok (.aload_n 0, 1) := by decide +kernel
theorem dX0_isWall_15 : decode cX0_isWall 15 = .ok (.getfield 9, 3) := by decide +kernel
theorem dX0_isWall_18 : decode cX0_isWall 18 = .ok (.iconst 1, 1) := by decide +kernel
theorem dX0_isWall_19 : decode cX0_isWall 19 = .ok (.isub, 1) := by decide +kernel
theorem dX0_isWall_20 : decode cX0_isWall 20 = .ok (.if_icmp .ne 7, 3) := by decide +kernel
theorem dX0_isWall_23 : decode cX0_isWall 23 = .ok (.iconst 1, 1) := by decide +kernel
theorem dX0_isWall_24 : decode cX0_isWall 24 = .ok (.goto 4, 3) := by decide +kernel
theorem dX0_isWall_27 : decode cX0_isWall 27 = .ok (.iconst 0, 1) := by decide +kernel
theorem dX0_isWall_28 : decode cX0_isWall 28 = .ok (.ireturn, 1) := by decide +kernel
theorem dX0_toggle_0 : decode cX0_toggle 0 = .ok (.aload_n 0, 1) := by decide +kernel
theorem dX0_toggle_1 : decode cX0_toggle 1 = .ok (.getfield 15, 3) := by decide +kernel
theorem dX0_toggle_4 : decode cX0_toggle 4 = .ok (.iload_n 1, 1) := by decide +kernel
theorem dX0_toggle_5 : decode cX0_toggle 5 = .ok (.iaload, 1) := by decide +kernel
theorem dX0_toggle_6 : decode cX0_toggle 6 = .ok (.ifCond .le 7, 3) := by decide +kernel
theorem dX0_toggle_9 : decode cX0_toggle 9 = .ok (.iconst (-1), 1) := by decide +kernel
theorem dX0_toggle_10 : decode cX0_toggle 10 = .ok (.goto 4, 3) := by decide +kernel
theorem dX0_toggle_13 : decode cX0_toggle 13 = .ok (.iconst 1, 1) := by decide +kernel
theorem dX0_toggle_14 : decode cX0_toggle 14 = .ok (.istore_n 2, 1) := by decide +kernel
theorem dX0_toggle_15 : decode cX0_toggle 15 = .ok (.iconst 1, 1) := by decide +kernel
theorem dX0_toggle_16 : decode cX0_toggle 16 = .ok (.aload_n 0, 1) := by decide +kernel
theorem dX0_toggle_17 : decode cX0_toggle 17 = .ok (.getfield 9, 3) := by decide +kernel
theorem dX0_toggle_20 : decode cX0_toggle 20 = .ok (.ishl, 1) := by decide +kernel
theorem dX0_toggle_21 : decode cX0_toggle 21 = .ok (.istore_n 3, 1) := by decide +kernel
theorem dX0_toggle_22 : decode cX0_toggle 22 = .ok (.iload_n 1, 1) := by decide +kernel
theorem dX0_toggle_23 : decode cX0_toggle 23 = .ok (.istore 4, 2) := by decide +kernel
theorem dX0_toggle_25 : decode cX0_toggle 25 = .ok (.iconst 0, 1) := by decide +kernel
theorem dX0_toggle_26 : decode cX0_toggle 26 = .ok (.istore 5, 2) := by decide +kernel
theorem dX0_toggle_28 : decode cX0_toggle 28 = .ok (.iload 5, 2) := by decide +kernel
theorem dX0_toggle_30 : decode cX0_toggle 30 = .ok (.iload_n 3, 1) := by decide +kernel
theorem dX0_toggle_31 : decode cX0_toggle 31 = .ok (.if_icmp .ge 28, 3) := by decide +kernel
theorem dX0_toggle_34 : decode cX0_toggle 34 = .ok (.aload_n 0, 1) := by decide +kernel
theorem dX0_toggle_35 : decode cX0_toggle 35 = .ok (.getfield 15, 3) := by decide +kernel
theorem dX0_toggle_38 : decode cX0_toggle 38 = .ok (.iload 4, 2) := by decide +kernel
theorem dX0_toggle_40 : decode cX0_toggle 40 = .ok (.dup2, 1) := by decide +kernel
theorem dX0_toggle_41 : decode cX0_toggle 41 = .ok (.iaload, 1) := by decide +kernel
theorem dX0_toggle_42 : decode cX0_toggle 42 = .ok (.iload_n 2, 1) := by decide +kernel
theorem dX0_toggle_43 : decode cX0_toggle 43 = .ok (.iadd, 1) := by decide +kernel
theorem dX0_toggle_44 : decode cX0_toggle 44 = .ok (.iastore, 1) := by decide +kernel
theorem dX0_toggle_45 : decode cX0_toggle 45 = .ok (.iload 4, 2) := by decide +kernel
theorem dX0_toggle_47 : decode cX0_toggle 47 = .ok (.iconst 1, 1) := by decide +kernel
theorem dX0_toggle_48 : decode cX0_toggle 48 = .ok (.isub, 1) := by decide +kernel
theorem dX0_toggle_49 : decode cX0_toggle 49 = .ok (.iload_n 1, 1) := by decide +kernel
theorem dX0_toggle_50 : decode cX0_toggle 50 = .ok (.iand, 1) := by decide +kernel
theorem dX0_toggle_51 : decode cX0_toggle 51 = .ok (.istore 4, 2) := by decide +kernel
theorem dX0_toggle_53 : decode cX0_toggle 53 = .ok (.iinc 5 1, 3) := by decide +kernel
theorem dX0_toggle_56 : decode cX0_toggle 56 = .ok (.goto (-28), 3) := by decide +kernel
theorem dX0_toggle_59 : decode cX0_toggle 59 = .ok (.return_, 1) := by decide +kernel
theorem dX0_toggleAround_0 : decode cX0_toggleAround 0 = .ok (.iconst 0, 1) := by decide +kernel
theorem dX0_toggleAround_1 : decode cX0_toggleAround 1 = .ok (.istore_n 2, 1) := by decide +kernel
theorem dX0_toggleAround_2 : decode cX0_toggleAround 2 = .ok (.iload_n 2, 1) := by decide +kernel
theorem dX0_toggleAround_3 : decode cX0_toggleAround 3 = .ok (.bipush 8, 2) := by decide +kernel
theorem dX0_toggleAround_5 : decode cX0_toggleAround 5 = .ok (.if_icmp .ge 29, 3) := by decide +kernel
theorem dX0_toggleAround_8 : decode cX0_toggleAround 8 = .ok (.iload_n 1, 1) := by decide +kernel
theorem dX0_toggleAround_9 : decode cX0_toggleAround 9 = .ok (.iload_n 2, 1) := by decide +kernel
theorem dX0_toggleAround_10 : decode cX0_toggleAround 10 = .ok (.ishr, 1) := by decide +kernel
theorem dX0_toggleAround_11 : decode cX0_toggleAround 11 = .ok (.iconst 1, 1) := by decide +kernel
theorem dX0_toggleAround_12 : decode cX0_toggleAround 12 = .ok (.iand, 1) := by decide +kernel
theorem dX0_toggleAround_13 : decode cX0_toggleAround 13 = .ok (.iconst 1, 1) := by decide +kernel
theorem dX0_toggleAround_14 : decode cX0_toggleAround 14 = .ok (.if_icmp .ne 14, 3) := by decide +kernel
theorem dX0_toggleAround_17 : decode cX0_toggleAround 17 = .ok (.aload_n 0, 1) := by decide +kernel
theorem dX0_toggleAround_18 : decode cX0_toggleAround 18 = .ok (.iload_n 1, 1) := by decide +kernel
theorem dX0_toggleAround_19 : decode cX0_toggleAround 19 = .ok (.iconst 1, 1) := by decide +kernel
theorem dX0_toggleAround_20 : decode cX0_toggleAround 20 = .ok (.iload_n 2, 1) := by decide +kernel
theorem dX0_toggleAround_21 : decode cX0_toggleAround 21 = .ok (.ishl, 1) := by decide +kernel
theorem dX0_toggleAround_22 : decode cX0_toggleAround 22 = .ok (.iconst (-1), 1) := by decide +kernel
theorem dX0_toggleAround_23 : decode cX0_toggleAround 23 = .ok (.ixor, 1) := by decide +kernel
theorem dX0_toggleAround_24 : decode cX0_toggleAround 24 = .ok (.iand, 1) := by decide +kernel
theorem dX0_toggleAround_25 : decode cX0_toggleAround 25 = .ok (.invokevirtual 31, 3) := by decide +kernel
theorem dX0_toggleAround_28 : decode cX0_toggleAround 28 = .ok (.iinc 2 1, 3) := by decide +kernel
theorem dX0_toggleAround_31 : decode cX0_toggleAround 31 = .ok (.goto (-29), 3) := by decide +kernel
theorem dX0_toggleAround_34 : decode cX0_toggleAround 34 = .ok (.return_, 1) := by decide +kernel
theorem dX0_become_0 : decode cX0_become 0 = .ok (.aload_n 0, 1) := by decide +kernel
theorem dX0_become_1 : decode cX0_become 1 = .ok (.aload_n 0, 1) := by decide +kernel
theorem dX0_become_2 : decode cX0_become 2 = .ok (.getfield 9, 3) := by decide +kernel
theorem dX0_become_5 : decode cX0_become 5 = .ok (.invokevirtual 35, 3) := by decide +kernel
theorem dX0_become_8 : decode cX0_become 8 = .ok (.iload_n 1, 1) := by decide +kernel
theorem dX0_become_9 : decode cX0_become 9 = .ok (.tableswitch 94 1 5 #[35, 47, 62, 78, 87], 35) := by decide +kernel
theorem dX0_become_44 : decode cX0_become 44 = .ok (.aload_n 0, 1) := by decide +kernel
theorem dX0_become_45 : decode cX0_become 45 = .ok (.aload_n 0, 1) := by decide +kernel
theorem dX0_become_46 : decode cX0_become 46 = .ok (.iconst 0, 1) := by decide +kernel
theorem dX0_become_47 : decode cX0_become 47 = .ok (.invokevirtual 38, 3) := by decide +kernel
theorem dX0_become_50 : decode cX0_become 50 = .ok (.invokevirtual 31, 3) := by decide +kernel
theorem dX0_become_53 : decode cX0_become 53 = .ok (.goto 50, 3) := by decide +kernel
theorem dX0_become_56 : decode cX0_become 56 = .ok (.aload_n 0, 1) := by decide +kernel
theorem dX0_become_57 : decode cX0_become 57 = .ok (.iconst 2, 1) := by decide +kernel
theorem dX0_become_58 : decode cX0_become 58 = .ok (.aload_n 0, 1) := by decide +kernel
theorem dX0_become_59 : decode cX0_become 59 = .ok (.getfield 9, 3) := by decide +kernel
theorem dX0_become_62 : decode cX0_become 62 = .ok (.ishl, 1) := by decide +kernel
theorem dX0_become_63 : decode cX0_become 63 = .ok (.iconst 1, 1) := by decide +kernel
theorem dX0_become_64 : decode cX0_become 64 = .ok (.isub, 1) := by decide +kernel
theorem dX0_become_65 : decode cX0_become 65 = .ok (.invokevirtual 41, 3) := by decide +kernel
theorem dX0_become_68 : decode cX0_become 68 = .ok (.goto 35, 3) := by decide +kernel
theorem dX0_become_71 : decode cX0_become 71 = .ok (.aload_n 0, 1) := by decide +kernel
theorem dX0_become_72 : decode cX0_become 72 = .ok (.bipush 8, 2) := by decide +kernel
theorem dX0_become_74 : decode cX0_become 74 = .ok (.aload_n 0, 1) := by decide +kernel
theorem dX0_become_75 : decode cX0_become 75 = .ok (.getfield 9, 3) := by decide +kernel
theorem dX0_become_78 : decode cX0_become 78 = .ok (.isub, 1) := by decide +kernel
theorem dX0_become_79 : decode cX0_become 79 = .ok (.iconst 1, 1) := by decide +kernel
theorem dX0_become_80 : decode cX0_become 80 = .ok (.iadd, 1) := by decide +kernel
theorem dX0_become_81 : decode cX0_become 81 = .ok (.invokevirtual 44, 3) := by decide +kernel
theorem dX0_become_84 : decode cX0_become 84 = .ok (.goto 19, 3) := by decide +kernel
theorem dX0_become_87 : decode cX0_become 87 = .ok (.aload_n 0, 1) := by decide +kernel
theorem dX0_become_88 : decode cX0_become 88 = .ok (.bipush 8, 2) := by decide +kernel
theorem dX0_become_90 : decode cX0_become 90 = .ok (.invokevirtual 44, 3) := by decide +kernel
theorem dX0_become_93 : decode cX0_become 93 = .ok (.goto 10, 3) := by decide +kernel
theorem dX0_become_96 : decode cX0_become 96 = .ok (.aload_n 0, 1) := by decide +kernel
theorem dX0_become_97 : decode cX0_become 97 = .ok (.invokevirtual 47, 3) := by decide +kernel
theorem dX0_become_100 : decode cX0_become 100 = .ok (.goto 3, 3) := by decide +kernel
theorem dX0_become_103 : decode cX0_become 103 = .ok (.return_, 1) := by decide +kernel
theorem dX0_arc_0 : decode cX0_arc 0 = .ok (.iconst 1, 1) := by decide +kernel
theorem dX0_arc_1 : decode cX0_arc 1 = .ok (.aload_n 0, 1) := by decide +kernel
theorem dX0_arc_2 : decode cX0_arc 2 = .ok (.getfield 9, 3) := by decide +kernel
theorem dX0_arc_5 : decode cX0_arc 5 = .ok (.ishl, 1) := by decide +kernel
theorem dX0_arc_6 : decode cX0_arc 6 = .ok (.iconst 1, 1) := by decide +kernel
theorem dX0_arc_7 : decode cX0_arc 7 = .ok (.isub, 1) := by decide +kernel
theorem dX0_arc_8 : decode cX0_arc 8 = .ok (.iload_n 1, 1) := by decide +kernel
theorem dX0_arc_9 : decode cX0_arc 9 = .ok (.ishl, 1) := by decide +kernel
theorem dX0_arc_10 : decode cX0_arc 10 = .ok (.istore_n 2, 1) := by decide +kernel
theorem dX0_arc_11 : decode cX0_arc 11 = .ok (.iload_n 2, 1) := by decide +kernel
theorem dX0_arc_12 : decode cX0_arc 12 = .ok (.iload_n 2, 1) := by decide +kernel
theorem dX0_arc_13 : decode cX0_arc 13 = .ok (.bipush 8, 2) := by decide +kernel
theorem dX0_arc_15 : decode cX0_arc 15 = .ok (.ishr, 1) := by decide +kernel
theorem dX0_arc_16 : decode cX0_arc 16 = .ok (.ior, 1) := by decide +kernel
theorem dX0_arc_17 : decode cX0_arc 17 = .ok (.sipush 255, 3) := by decide +kernel
theorem dX0_arc_20 : decode cX0_arc 20 = .ok (.iand, 1) := by decide +kernel
theorem dX0_arc_21 : decode cX0_arc 21 = .ok (.ireturn, 1) := by decide +kernel
theorem dX0_addArcs_0 : decode cX0_addArcs 0 = .ok (.iconst 0, 1) := by decide +kernel
theorem dX0_addArcs_1 : decode cX0_addArcs 1 = .ok (.istore_n 2, 1) := by decide +kernel
theorem dX0_addArcs_2 : decode cX0_addArcs 2 = .ok (.iload_n 2, 1) := by decide +kernel
theorem dX0_addArcs_3 : decode cX0_addArcs 3 = .ok (.iload_n 1, 1) := by decide +kernel
theorem dX0_addArcs_4 : decode cX0_addArcs 4 = .ok (.if_icmp .ge 18, 3) := by decide +kernel
theorem dX0_addArcs_7 : decode cX0_addArcs 7 = .ok (.aload_n 0, 1) := by decide +kernel
theorem dX0_addArcs_8 : decode cX0_addArcs 8 = .ok (.aload_n 0, 1) := by decide +kernel
theorem dX0_addArcs_9 : decode cX0_addArcs 9 = .ok (.iload_n 2, 1) := by decide +kernel
theorem dX0_addArcs_10 : decode cX0_addArcs 10 = .ok (.invokevirtual 38, 3) := by decide +kernel
theorem dX0_addArcs_13 : decode cX0_addArcs 13 = .ok (.invokevirtual 31, 3) := by decide +kernel
theorem dX0_addArcs_16 : decode cX0_addArcs 16 = .ok (.iinc 2 1, 3) := by decide +kernel
theorem dX0_addArcs_19 : decode cX0_addArcs 19 = .ok (.goto (-17), 3) := by decide +kernel
theorem dX0_addArcs_22 : decode cX0_addArcs 22 = .ok (.return_, 1) := by decide +kernel
theorem dX0_addCross_0 : decode cX0_addCross 0 = .ok (.iconst 0, 1) := by decide +kernel
theorem dX0_addCross_1 : decode cX0_addCross 1 = .ok (.istore_n 1, 1) := by decide +kernel
theorem dX0_addCross_2 : decode cX0_addCross 2 = .ok (.iload_n 1, 1) := by decide +kernel
theorem dX0_addCross_3 : decode cX0_addCross 3 = .ok (.iconst 1, 1) := by decide +kernel
theorem dX0_addCross_4 : decode cX0_addCross 4 = .ok (.aload_n 0, 1) := by decide +kernel
theorem dX0_addCross_5 : decode cX0_addCross 5 = .ok (.getfield 9, 3) := by decide +kernel
theorem dX0_addCross_8 : decode cX0_addCross 8 = .ok (.ishl, 1) := by decide +kernel
theorem dX0_addCross_9 : decode cX0_addCross 9 = .ok (.if_icmp .ge 46, 3) := by decide +kernel
theorem dX0_addCross_12 : decode cX0_addCross 12 = .ok (.iconst 0, 1) := by decide +kernel
theorem dX0_addCross_13 : decode cX0_addCross 13 = .ok (.istore_n 2, 1) := by decide +kernel
theorem dX0_addCross_14 : decode cX0_addCross 14 = .ok (.iconst 0, 1) := by decide +kernel
theorem dX0_addCross_15 : decode cX0_addCross 15 = .ok (.istore_n 3, 1) := by decide +kernel
theorem dX0_addCross_16 : decode cX0_addCross 16 = .ok (.iload_n 3, 1) := by decide +kernel
theorem dX0_addCross_17 : decode cX0_addCross 17 = .ok (.aload_n 0, 1) := by decide +kernel
theorem dX0_addCross_18 : decode cX0_addCross 18 = .ok (.getfield 9, 3) := by decide +kernel
theorem dX0_addCross_21 : decode cX0_addCross 21 = .ok (.if_icmp .ge 23, 3) := by decide +kernel
theorem dX0_addCross_24 : decode cX0_addCross 24 = .ok (.iload_n 2, 1) := by decide +kernel
theorem dX0_addCross_25 : decode cX0_addCross 25 = .ok (.iconst 1, 1) := by decide +kernel
theorem dX0_addCross_26 : decode cX0_addCross 26 = .ok (.iconst 2, 1) := by decide +kernel
theorem dX0_addCross_27 : decode cX0_addCross 27 = .ok (.iload_n 3, 1) := by decide +kernel
theorem dX0_addCross_28 : decode cX0_addCross 28 = .ok (.imul, 1) := by decide +kernel
theorem dX0_addCross_29 : decode cX0_addCross 29 = .ok (.iload_n 1, 1) := by decide +kernel
theorem dX0_addCross_30 : decode cX0_addCross 30 = .ok (.iload_n 3, 1) := by decide +kernel
theorem dX0_addCross_31 : decode cX0_addCross 31 = .ok (.ishr, 1) := by decide +kernel
theorem dX0_addCross_32 : decode cX0_addCross 32 = .ok (.iconst 1, 1) := by decide +kernel
theorem dX0_addCross_33 : decode cX0_addCross 33 = .ok (.iand, 1) := by decide +kernel
theorem dX0_addCross_34 : decode cX0_addCross 34 = .ok (.iadd, 1) := by decide +kernel
theorem dX0_addCross_35 : decode cX0_addCross 35 = .ok (.ishl, 1) := by decide +kernel
theorem dX0_addCross_36 : decode cX0_addCross 36 = .ok (.ior, 1) := by decide +kernel
theorem dX0_addCross_37 : decode cX0_addCross 37 = .ok (.istore_n 2, 1) := by decide +kernel
theorem dX0_addCross_38 : decode cX0_addCross 38 = .ok (.iinc 3 1, 3) := by decide +kernel
theorem dX0_addCross_41 : decode cX0_addCross 41 = .ok (.goto (-25), 3) := by decide +kernel
theorem dX0_addCross_44 : decode cX0_addCross 44 = .ok (.aload_n 0, 1) := by decide +kernel
theorem dX0_addCross_45 : decode cX0_addCross 45 = .ok (.iload_n 2, 1) := by decide +kernel
theorem dX0_addCross_46 : decode cX0_addCross 46 = .ok (.invokevirtual 31, 3) := by decide +kernel
theorem dX0_addCross_49 : decode cX0_addCross 49 = .ok (.iinc 1 1, 3) := by decide +kernel
theorem dX0_addCross_52 : decode cX0_addCross 52 = .ok (.goto (-50), 3) := by decide +kernel
theorem dX0_addCross_55 : decode cX0_addCross 55 = .ok (.return_, 1) := by decide +kernel
theorem dX0_setAt_0 : decode cX0_setAt 0 = .ok (.iload_n 3, 1) := by decide +kernel
theorem dX0_setAt_1 : decode cX0_setAt 1 = .ok (.istore 4, 2) := by decide +kernel
theorem dX0_setAt_3 : decode cX0_setAt 3 = .ok (.iconst 1, 1) := by decide +kernel
theorem dX0_setAt_4 : decode cX0_setAt 4 = .ok (.istore 5, 2) := by decide +kernel
theorem dX0_setAt_6 : decode cX0_setAt 6 = .ok (.iload 5, 2) := by decide +kernel
theorem dX0_setAt_8 : decode cX0_setAt 8 = .ok (.sipush 256, 3) := by decide +kernel
theorem dX0_setAt_11 : decode cX0_setAt 11 = .ok (.if_icmp .ge 40, 3) := by decide +kernel
theorem dX0_setAt_14 : decode cX0_setAt 14 = .ok (.aload_n 0, 1) := by decide +kernel
theorem dX0_setAt_15 : decode cX0_setAt 15 = .ok (.getfield 15, 3) := by decide +kernel
theorem dX0_setAt_18 : decode cX0_setAt 18 = .ok (.iload 5, 2) := by decide +kernel
theorem dX0_setAt_20 : decode cX0_setAt 20 = .ok (.iaload, 1) := by decide +kernel
theorem dX0_setAt_21 : decode cX0_setAt 21 = .ok (.iload_n 2, 1) := by decide +kernel
theorem dX0_setAt_22 : decode cX0_setAt 22 = .ok (.if_icmp .ne 23, 3) := by decide +kernel
theorem dX0_setAt_25 : decode cX0_setAt 25 = .ok (.iload 5, 2) := by decide +kernel
theorem dX0_setAt_27 : decode cX0_setAt 27 = .ok (.invokestatic 25, 3) := by decide +kernel
theorem dX0_setAt_30 : decode cX0_setAt 30 = .ok (.iload_n 1, 1) := by decide +kernel
theorem dX0_setAt_31 : decode cX0_setAt 31 = .ok (.if_icmp .ne 14, 3) := by decide +kernel
theorem dX0_setAt_34 : decode cX0_setAt 34 = .ok (.iload 4, 2) := by decide +kernel
theorem dX0_setAt_36 : decode cX0_setAt 36 = .ok (.ifCond .ne 6, 3) := by decide +kernel
theorem dX0_setAt_39 : decode cX0_setAt 39 = .ok (.iload 5, 2) := by decide +kernel
theorem dX0_setAt_41 : decode cX0_setAt 41 = .ok (.ireturn, 1) := by decide +kernel
theorem dX0_setAt_42 : decode cX0_setAt 42 = .ok (.iinc 4 (-1), 3) := by decide +kernel
theorem dX0_setAt_45 : decode cX0_setAt 45 = .ok (.iinc 5 1, 3) := by decide +kernel
theorem dX0_setAt_48 : decode cX0_setAt 48 = .ok (.goto (-42), 3) := by decide +kernel
theorem dX0_setAt_51 : decode cX0_setAt 51 = .ok (.bipush (-5), 2) := by decide +kernel
theorem dX0_setAt_53 : decode cX0_setAt 53 = .ok (.ireturn, 1) := by decide +kernel
theorem dX0_there_0 : decode cX0_there 0 = .ok (.aload_n 0, 1) := by decide +kernel
theorem dX0_there_1 : decode cX0_there 1 = .ok (.iconst 0, 1) := by decide +kernel
theorem dX0_there_2 : decode cX0_there 2 = .ok (.invokevirtual 50, 3) := by decide +kernel
theorem dX0_there_5 : decode cX0_there 5 = .ok (.ireturn, 1) := by decide +kernel
theorem dX0_linkPoints_0 : decode cX0_linkPoints 0 = .ok (.iconst 0, 1) := by decide +kernel
theorem dX0_linkPoints_1 : decode cX0_linkPoints 1 = .ok (.istore_n 2, 1) := by decide +kernel
theorem dX0_linkPoints_2 : decode cX0_linkPoints 2 = .ok (.iconst 0, 1) := by decide +kernel
theorem dX0_linkPoints_3 : decode cX0_linkPoints 3 = .ok (.istore_n 3, 1) := by decide +kernel
theorem dX0_linkPoints_4 : decode cX0_linkPoints 4 = .ok (.iload_n 3, 1) := by decide +kernel
theorem dX0_linkPoints_5 : decode cX0_linkPoints 5 = .ok (.bipush 8, 2) := by decide +kernel
theorem dX0_linkPoints_7 : decode cX0_linkPoints 7 = .ok (.if_icmp .ge 38, 3) := by decide +kernel
theorem dX0_linkPoints_10 : decode cX0_linkPoints 10 = .ok (.iconst 1, 1) := by decide +kernel
theorem dX0_linkPoints_11 : decode cX0_linkPoints 11 = .ok (.iload_n 3, 1) := by decide +kernel
theorem dX0_linkPoints_12 : decode cX0_linkPoints 12 = .ok (.ishl, 1) := by decide +kernel
theorem dX0_linkPoints_13 : decode cX0_linkPoints 13 = .ok (.istore 4, 2) := by decide +kernel
theorem dX0_linkPoints_15 : decode cX0_linkPoints 15 = .ok (.iload_n 1, 1) := by decide +kernel
theorem dX0_linkPoints_16 : decode cX0_linkPoints 16 = .ok (.iload 4, 2) := by decide +kernel
theorem dX0_linkPoints_18 : decode cX0_linkPoints 18 = .ok (.iand, 1) := by decide +kernel
theorem dX0_linkPoints_19 : decode cX0_linkPoints 19 = .ok (.ifCond .ne 20, 3) := by decide +kernel
theorem dX0_linkPoints_22 : decode cX0_linkPoints 22 = .ok (.aload_n 0, 1) := by decide +kernel
theorem dX0_linkPoints_23 : decode cX0_linkPoints 23 = .ok (.getfield 15, 3) := by decide +kernel
theorem dX0_linkPoints_26 : decode cX0_linkPoints 26 = .ok (.iload_n 1, 1) := by decide +kernel
theorem dX0_linkPoints_27 : decode cX0_linkPoints 27 = .ok (.iload 4, 2) := by decide +kernel
theorem dX0_linkPoints_29 : decode cX0_linkPoints 29 = .ok (.ior, 1) := by decide +kernel
theorem dX0_linkPoints_30 : decode cX0_linkPoints 30 = .ok (.iaload, 1) := by decide +kernel
theorem dX0_linkPoints_31 : decode cX0_linkPoints 31 = .ok (.ifCond .le 8, 3) := by decide +kernel
theorem dX0_linkPoints_34 : decode cX0_linkPoints 34 = .ok (.iload_n 2, 1) := by decide +kernel
theorem dX0_linkPoints_35 : decode cX0_linkPoints 35 = .ok (.iload 4, 2) := by decide +kernel
theorem dX0_linkPoints_37 : decode cX0_linkPoints 37 = .ok (.ior, 1) := by decide +kernel
theorem dX0_linkPoints_38 : decode cX0_linkPoints 38 = .ok (.istore_n 2, 1) := by decide +kernel
theorem dX0_linkPoints_39 : decode cX0_linkPoints 39 = .ok (.iinc 3 1, 3) := by decide +kernel
theorem dX0_linkPoints_42 : decode cX0_linkPoints 42 = .ok (.goto (-38), 3) := by decide +kernel
theorem dX0_linkPoints_45 : decode cX0_linkPoints 45 = .ok (.iload_n 2, 1) := by decide +kernel
theorem dX0_linkPoints_46 : decode cX0_linkPoints 46 = .ok (.ireturn, 1) := by decide +kernel
theorem dX0_linkSets_0 : decode cX0_linkSets 0 = .ok (.iconst 0, 1) := by decide +kernel
theorem dX0_linkSets_1 : decode cX0_linkSets 1 = .ok (.istore_n 2, 1) := by decide +kernel
theorem dX0_linkSets_2 : decode cX0_linkSets 2 = .ok (.iconst 0, 1) := by decide +kernel
theorem dX0_linkSets_3 : decode cX0_linkSets 3 = .ok (.istore_n 3, 1) := by decide +kernel
theorem dX0_linkSets_4 : decode cX0_linkSets 4 = .ok (.iload_n 3, 1) := by decide +kernel
theorem dX0_linkSets_5 : decode cX0_linkSets 5 = .ok (.sipush 256, 3) := by decide +kernel
theorem dX0_linkSets_8 : decode cX0_linkSets 8 = .ok (.if_icmp .ge 29, 3) := by decide +kernel
theorem dX0_linkSets_11 : decode cX0_linkSets 11 = .ok (.iload_n 1, 1) := by decide +kernel
theorem dX0_linkSets_12 : decode cX0_linkSets 12 = .ok (.iload_n 3, 1) := by decide +kernel
theorem dX0_linkSets_13 : decode cX0_linkSets 13 = .ok (.iand, 1) := by decide +kernel
theorem dX0_linkSets_14 : decode cX0_linkSets 14 = .ok (.ifCond .ne 17, 3) := by decide +kernel
theorem dX0_linkSets_17 : decode cX0_linkSets 17 = .ok (.aload_n 0, 1) := by decide +kernel
theorem dX0_linkSets_18 : decode cX0_linkSets 18 = .ok (.getfield 15, 3) := by decide +kernel
theorem dX0_linkSets_21 : decode cX0_linkSets 21 = .ok (.iload_n 1, 1) := by decide +kernel
theorem dX0_linkSets_22 : decode cX0_linkSets 22 = .ok (.iload_n 3, 1) := by decide +kernel
theorem dX0_linkSets_23 : decode cX0_linkSets 23 = .ok (.ior, 1) := by decide +kernel
theorem dX0_linkSets_24 : decode cX0_linkSets 24 = .ok (.iaload, 1) := by decide +kernel
theorem dX0_linkSets_25 : decode cX0_linkSets 25 = .ok (.ifCond .le 6, 3) := by decide +kernel
theorem dX0_linkSets_28 : decode cX0_linkSets 28 = .ok (.iinc 2 1, 3) := by decide +kernel
theorem dX0_linkSets_31 : decode cX0_linkSets 31 = .ok (.iinc 3 1, 3) := by decide +kernel
theorem dX0_linkSets_34 : decode cX0_linkSets 34 = .ok (.goto (-30), 3) := by decide +kernel
theorem dX0_linkSets_37 : decode cX0_linkSets 37 = .ok (.iload_n 2, 1) := by decide +kernel
theorem dX0_linkSets_38 : decode cX0_linkSets 38 = .ok (.ireturn, 1) := by decide +kernel
theorem dX0_facesOf_0 : decode cX0_facesOf 0 = .ok (.iconst 0, 1) := by decide +kernel
theorem dX0_facesOf_1 : decode cX0_facesOf 1 = .ok (.istore_n 2, 1) := by decide +kernel
theorem dX0_facesOf_2 : decode cX0_facesOf 2 = .ok (.iconst 1, 1) := by decide +kernel
theorem dX0_facesOf_3 : decode cX0_facesOf 3 = .ok (.istore_n 3, 1) := by decide +kernel
theorem dX0_facesOf_4 : decode cX0_facesOf 4 = .ok (.iload_n 3, 1) := by decide +kernel
theorem dX0_facesOf_5 : decode cX0_facesOf 5 = .ok (.sipush 256, 3) := by decide +kernel
theorem dX0_facesOf_8 : decode cX0_facesOf 8 = .ok (.if_icmp .ge 29, 3) := by decide +kernel
theorem dX0_facesOf_11 : decode cX0_facesOf 11 = .ok (.aload_n 0, 1) := by decide +kernel
theorem dX0_facesOf_12 : decode cX0_facesOf 12 = .ok (.getfield 15, 3) := by decide +kernel
theorem dX0_facesOf_15 : decode cX0_facesOf 15 = .ok (.iload_n 3, 1) := by decide +kernel
theorem dX0_facesOf_16 : decode cX0_facesOf 16 = .ok (.iaload, 1) := by decide +kernel
theorem dX0_facesOf_17 : decode cX0_facesOf 17 = .ok (.ifCond .le 14, 3) := by decide +kernel
theorem dX0_facesOf_20 : decode cX0_facesOf 20 = .ok (.iload_n 3, 1) := by decide +kernel
theorem dX0_facesOf_21 : decode cX0_facesOf 21 = .ok (.invokestatic 25, 3) := by decide +kernel
theorem dX0_facesOf_24 : decode cX0_facesOf 24 = .ok (.iload_n 1, 1) := by decide +kernel
theorem dX0_facesOf_25 : decode cX0_facesOf 25 = .ok (.if_icmp .ne 6, 3) := by decide +kernel
theorem dX0_facesOf_28 : decode cX0_facesOf 28 = .ok (.iinc 2 1, 3) := by decide +kernel
theorem dX0_facesOf_31 : decode cX0_facesOf 31 = .ok (.iinc 3 1, 3) := by decide +kernel
theorem dX0_facesOf_34 : decode cX0_facesOf 34 = .ok (.goto (-30), 3) := by decide +kernel
theorem dX0_facesOf_37 : decode cX0_facesOf 37 = .ok (.iload_n 2, 1) := by decide +kernel
theorem dX0_facesOf_38 : decode cX0_facesOf 38 = .ok (.ireturn, 1) := by decide +kernel
theorem dX0_euler_0 : decode cX0_euler 0 = .ok (.aload_n 0, 1) := by decide +kernel
theorem dX0_euler_1 : decode cX0_euler 1 = .ok (.iconst 1, 1) := by decide +kernel
theorem dX0_euler_2 : decode cX0_euler 2 = .ok (.invokevirtual 53, 3) := by decide +kernel
theorem dX0_euler_5 : decode cX0_euler 5 = .ok (.aload_n 0, 1) := by decide +kernel
theorem dX0_euler_6 : decode cX0_euler 6 = .ok (.iconst 2, 1) := by decide +kernel
theorem dX0_euler_7 : decode cX0_euler 7 = .ok (.invokevirtual 53, 3) := by decide +kernel
theorem dX0_euler_10 : decode cX0_euler 10 = .ok (.isub, 1) := by decide +kernel
theorem dX0_euler_11 : decode cX0_euler 11 = .ok (.aload_n 0, 1) := by decide +kernel
theorem dX0_euler_12 : decode cX0_euler 12 = .ok (.iconst 3, 1) := by decide +kernel
theorem dX0_euler_13 : decode cX0_euler 13 = .ok (.invokevirtual 53, 3) := by decide +kernel
theorem dX0_euler_16 : decode cX0_euler 16 = .ok (.iadd, 1) := by decide +kernel
theorem dX0_euler_17 : decode cX0_euler 17 = .ok (.aload_n 0, 1) := by decide +kernel
theorem dX0_euler_18 : decode cX0_euler 18 = .ok (.iconst 4, 1) := by decide +kernel
theorem dX0_euler_19 : decode cX0_euler 19 = .ok (.invokevirtual 53, 3) := by decide +kernel
theorem dX0_euler_22 : decode cX0_euler 22 = .ok (.isub, 1) := by decide +kernel
theorem dX0_euler_23 : decode cX0_euler 23 = .ok (.ireturn, 1) := by decide +kernel
theorem dX0_walls_0 : decode cX0_walls 0 = .ok (.iconst 0, 1) := by decide +kernel
theorem dX0_walls_1 : decode cX0_walls 1 = .ok (.istore_n 1, 1) := by decide +kernel
theorem dX0_walls_2 : decode cX0_walls 2 = .ok (.iconst 1, 1) := by decide +kernel
theorem dX0_walls_3 : decode cX0_walls 3 = .ok (.istore_n 2, 1) := by decide +kernel
theorem dX0_walls_4 : decode cX0_walls 4 = .ok (.iload_n 2, 1) := by decide +kernel
theorem dX0_walls_5 : decode cX0_walls 5 = .ok (.sipush 256, 3) := by decide +kernel
theorem dX0_walls_8 : decode cX0_walls 8 = .ok (.if_icmp .ge 20, 3) := by decide +kernel
theorem dX0_walls_11 : decode cX0_walls 11 = .ok (.aload_n 0, 1) := by decide +kernel
theorem dX0_walls_12 : decode cX0_walls 12 = .ok (.iload_n 2, 1) := by decide +kernel
theorem dX0_walls_13 : decode cX0_walls 13 = .ok (.invokevirtual 56, 3) := by decide +kernel
theorem dX0_walls_16 : decode cX0_walls 16 = .ok (.ifCond .eq 6, 3) := by decide +kernel
theorem dX0_walls_19 : decode cX0_walls 19 = .ok (.iinc 1 1, 3) := by decide +kernel
theorem dX0_walls_22 : decode cX0_walls 22 = .ok (.iinc 2 1, 3) := by decide +kernel
theorem dX0_walls_25 : decode cX0_walls 25 = .ok (.goto (-21), 3) := by decide +kernel
theorem dX0_walls_28 : decode cX0_walls 28 = .ok (.iload_n 1, 1) := by decide +kernel
theorem dX0_walls_29 : decode cX0_walls 29 = .ok (.ireturn, 1) := by decide +kernel
theorem dX0_isRight_0 : decode cX0_isRight 0 = .ok (.iconst 1, 1) := by decide +kernel
theorem dX0_isRight_1 : decode cX0_isRight 1 = .ok (.istore_n 1, 1) := by decide +kernel
theorem dX0_isRight_2 : decode cX0_isRight 2 = .ok (.iload_n 1, 1) := by decide +kernel
theorem dX0_isRight_3 : decode cX0_isRight 3 = .ok (.sipush 256, 3) := by decide +kernel
theorem dX0_isRight_6 : decode cX0_isRight 6 = .ok (.if_icmp .ge 34, 3) := by decide +kernel
theorem dX0_isRight_9 : decode cX0_isRight 9 = .ok (.aload_n 0, 1) := by decide +kernel
theorem dX0_isRight_10 : decode cX0_isRight 10 = .ok (.getfield 15, 3) := by decide +kernel
theorem dX0_isRight_13 : decode cX0_isRight 13 = .ok (.iload_n 1, 1) := by decide +kernel
theorem dX0_isRight_14 : decode cX0_isRight 14 = .ok (.iaload, 1) := by decide +kernel
theorem dX0_isRight_15 : decode cX0_isRight 15 = .ok (.iconst 2, 1) := by decide +kernel
theorem dX0_isRight_16 : decode cX0_isRight 16 = .ok (.if_icmp .le 18, 3) := by decide +kernel
theorem dX0_isRight_19 : decode cX0_isRight 19 = .ok (.iload_n 1, 1) := by decide +kernel
theorem dX0_isRight_20 : decode cX0_isRight 20 = .ok (.invokestatic 25, 3) := by decide +kernel
theorem dX0_isRight_23 : decode cX0_isRight 23 = .ok (.aload_n 0, 1) := by decide +kernel
theorem dX0_isRight_24 : decode cX0_isRight 24 = .ok (.getfield 9, 3) := by decide +kernel
theorem dX0_isRight_27 : decode cX0_isRight 27 = .ok (.iconst 1, 1) := by decide +kernel
theorem dX0_isRight_28 : decode cX0_isRight 28 = .ok (.isub, 1) := by decide +kernel
theorem dX0_isRight_29 : decode cX0_isRight 29 = .ok (.if_icmp .ne 5, 3) := by decide +kernel
theorem dX0_isRight_32 : decode cX0_isRight 32 = .ok (.iconst 0, 1) := by decide +kernel
theorem dX0_isRight_33 : decode cX0_isRight 33 = .ok (.ireturn, 1) := by decide +kernel
theorem dX0_isRight_34 : decode cX0_isRight 34 = .ok (.iinc 1 1, 3) := by decide +kernel
theorem dX0_isRight_37 : decode cX0_isRight 37 = .ok (.goto (-35), 3) := by decide +kernel
theorem dX0_isRight_40 : decode cX0_isRight 40 = .ok (.iconst 1, 1) := by decide +kernel
theorem dX0_isRight_41 : decode cX0_isRight 41 = .ok (.ireturn, 1) := by decide +kernel
theorem dX0_partner_0 : decode cX0_partner 0 = .ok (.aload_n 0, 1) := by decide +kernel
theorem dX0_partner_1 : decode cX0_partner 1 = .ok (.getfield 9, 3) := by decide +kernel
theorem dX0_partner_4 : decode cX0_partner 4 = .ok (.iconst 1, 1) := by decide +kernel
theorem dX0_partner_5 : decode cX0_partner 5 = .ok (.iadd, 1) := by decide +kernel
theorem dX0_partner_6 : decode cX0_partner 6 = .ok (.iload_n 1, 1) := by decide +kernel
theorem dX0_partner_7 : decode cX0_partner 7 = .ok (.invokestatic 25, 3) := by decide +kernel
theorem dX0_partner_10 : decode cX0_partner 10 = .ok (.isub, 1) := by decide +kernel
theorem dX0_partner_11 : decode cX0_partner 11 = .ok (.istore_n 2, 1) := by decide +kernel
theorem dX0_partner_12 : decode cX0_partner 12 = .ok (.iload_n 1, 1) := by decide +kernel
theorem dX0_partner_13 : decode cX0_partner 13 = .ok (.ifCond .eq 22, 3) := by decide +kernel
theorem dX0_partner_16 : decode cX0_partner 16 = .ok (.aload_n 0, 1) := by decide +kernel
theorem dX0_partner_17 : decode cX0_partner 17 = .ok (.getfield 15, 3) := by decide +kernel
theorem dX0_partner_20 : decode cX0_partner 20 = .ok (.iload_n 1, 1) := by decide +kernel
theorem dX0_partner_21 : decode cX0_partner 21 = .ok (.iaload, 1) := by decide +kernel
theorem dX0_partner_22 : decode cX0_partner 22 = .ok (.ifCond .eq 13, 3) := by decide +kernel
theorem dX0_partner_25 : decode cX0_partner 25 = .ok (.aload_n 0, 1) := by decide +kernel
theorem dX0_partner_26 : decode cX0_partner 26 = .ok (.getfield 15, 3) := by decide +kernel
theorem dX0_partner_29 : decode cX0_partner 29 = .ok (.iload_n 1, 1) := by decide +kernel
theorem dX0_partner_30 : decode cX0_partner 30 = .ok (.iaload, 1) := by decide +kernel
theorem dX0_partner_31 : decode cX0_partner 31 = .ok (.iload_n 2, 1) := by decide +kernel
theorem dX0_partner_32 : decode cX0_partner 32 = .ok (.if_icmp .eq 5, 3) := by decide +kernel
theorem dX0_partner_35 : decode cX0_partner 35 = .ok (.iconst 0, 1) := by decide +kernel
theorem dX0_partner_36 : decode cX0_partner 36 = .ok (.ireturn, 1) := by decide +kernel
theorem dX0_partner_37 : decode cX0_partner 37 = .ok (.iload_n 2, 1) := by decide +kernel
theorem dX0_partner_38 : decode cX0_partner 38 = .ok (.iconst 1, 1) := by decide +kernel
theorem dX0_partner_39 : decode cX0_partner 39 = .ok (.if_icmp .ne 19, 3) := by decide +kernel
theorem dX0_partner_42 : decode cX0_partner 42 = .ok (.aload_n 0, 1) := by decide +kernel
theorem dX0_partner_43 : decode cX0_partner 43 = .ok (.invokevirtual 60, 3) := by decide +kernel
theorem dX0_partner_46 : decode cX0_partner 46 = .ok (.iconst (-1), 1) := by decide +kernel
theorem dX0_partner_47 : decode cX0_partner 47 = .ok (.ixor, 1) := by decide +kernel
theorem dX0_partner_48 : decode cX0_partner 48 = .ok (.sipush 255, 3) := by decide +kernel
theorem dX0_partner_51 : decode cX0_partner 51 = .ok (.iand, 1) := by decide +kernel
theorem dX0_partner_52 : decode cX0_partner 52 = .ok (.istore_n 3, 1) := by decide +kernel
theorem dX0_partner_53 : decode cX0_partner 53 = .ok (.iload_n 3, 1) := by decide +kernel
theorem dX0_partner_54 : decode cX0_partner 54 = .ok (.iload_n 3, 1) := by decide +kernel
theorem dX0_partner_55 : decode cX0_partner 55 = .ok (.ineg, 1) := by decide +kernel
theorem dX0_partner_56 : decode cX0_partner 56 = .ok (.iand, 1) := by decide +kernel
theorem dX0_partner_57 : decode cX0_partner 57 = .ok (.ireturn, 1) := by decide +kernel
theorem dX0_partner_58 : decode cX0_partner 58 = .ok (.aload_n 0, 1) := by decide +kernel
theorem dX0_partner_59 : decode cX0_partner 59 = .ok (.iload_n 1, 1) := by decide +kernel
theorem dX0_partner_60 : decode cX0_partner 60 = .ok (.invokevirtual 50, 3) := by decide +kernel
theorem dX0_partner_63 : decode cX0_partner 63 = .ok (.istore_n 3, 1) := by decide +kernel
theorem dX0_partner_64 : decode cX0_partner 64 = .ok (.iload_n 3, 1) := by decide +kernel
theorem dX0_partner_65 : decode cX0_partner 65 = .ok (.invokestatic 25, 3) := by decide +kernel
theorem dX0_partner_68 : decode cX0_partner 68 = .ok (.iload_n 2, 1) := by decide +kernel
theorem dX0_partner_69 : decode cX0_partner 69 = .ok (.if_icmp .ne 16, 3) := by decide +kernel
theorem dX0_partner_72 : decode cX0_partner 72 = .ok (.aload_n 0, 1) := by decide +kernel
theorem dX0_partner_73 : decode cX0_partner 73 = .ok (.getfield 15, 3) := by decide +kernel
theorem dX0_partner_76 : decode cX0_partner 76 = .ok (.iload_n 3, 1) := by decide +kernel
theorem dX0_partner_77 : decode cX0_partner 77 = .ok (.iaload, 1) := by decide +kernel
theorem dX0_partner_78 : decode cX0_partner 78 = .ok (.ifCond .ne 7, 3) := by decide +kernel
theorem dX0_partner_81 : decode cX0_partner 81 = .ok (.iload_n 3, 1) := by decide +kernel
theorem dX0_partner_82 : decode cX0_partner 82 = .ok (.goto 4, 3) := by decide +kernel
theorem dX0_partner_85 : decode cX0_partner 85 = .ok (.iconst 0, 1) := by decide +kernel
theorem dX0_partner_86 : decode cX0_partner 86 = .ok (.ireturn, 1) := by decide +kernel
theorem dX0_gather_0 : decode cX0_gather 0 = .ok (.iconst 0, 1) := by decide +kernel
theorem dX0_gather_1 : decode cX0_gather 1 = .ok (.istore_n 2, 1) := by decide +kernel
theorem dX0_gather_2 : decode cX0_gather 2 = .ok (.iconst 1, 1) := by decide +kernel
theorem dX0_gather_3 : decode cX0_gather 3 = .ok (.istore_n 3, 1) := by decide +kernel
theorem dX0_gather_4 : decode cX0_gather 4 = .ok (.iload_n 3, 1) := by decide +kernel
theorem dX0_gather_5 : decode cX0_gather 5 = .ok (.sipush 256, 3) := by decide +kernel
theorem dX0_gather_8 : decode cX0_gather 8 = .ok (.if_icmp .ge 30, 3) := by decide +kernel
theorem dX0_gather_11 : decode cX0_gather 11 = .ok (.aload_n 0, 1) := by decide +kernel
theorem dX0_gather_12 : decode cX0_gather 12 = .ok (.iload_n 3, 1) := by decide +kernel
theorem dX0_gather_13 : decode cX0_gather 13 = .ok (.invokevirtual 64, 3) := by decide +kernel
theorem dX0_gather_16 : decode cX0_gather 16 = .ok (.ifCond .eq 16, 3) := by decide +kernel
theorem dX0_gather_19 : decode cX0_gather 19 = .ok (.iload_n 2, 1) := by decide +kernel
theorem dX0_gather_20 : decode cX0_gather 20 = .ok (.aload_n 1, 1) := by decide +kernel
theorem dX0_gather_21 : decode cX0_gather 21 = .ok (.arraylength, 1) := by decide +kernel
theorem dX0_gather_22 : decode cX0_gather 22 = .ok (.if_icmp .ge 10, 3) := by decide +kernel
theorem dX0_gather_25 : decode cX0_gather 25 = .ok (.aload_n 1, 1) := by decide +kernel
theorem dX0_gather_26 : decode cX0_gather 26 = .ok (.iload_n 2, 1) := by decide +kernel
theorem dX0_gather_27 : decode cX0_gather 27 = .ok (.iload_n 3, 1) := by decide +kernel
theorem dX0_gather_28 : decode cX0_gather 28 = .ok (.iastore, 1) := by decide +kernel
theorem dX0_gather_29 : decode cX0_gather 29 = .ok (.iinc 2 1, 3) := by decide +kernel
theorem dX0_gather_32 : decode cX0_gather 32 = .ok (.iinc 3 1, 3) := by decide +kernel
theorem dX0_gather_35 : decode cX0_gather 35 = .ok (.goto (-31), 3) := by decide +kernel
theorem dX0_gather_38 : decode cX0_gather 38 = .ok (.iload_n 2, 1) := by decide +kernel
theorem dX0_gather_39 : decode cX0_gather 39 = .ok (.ireturn, 1) := by decide +kernel
theorem dX0_numberOf_0 : decode cX0_numberOf 0 = .ok (.aload_n 0, 1) := by decide +kernel
theorem dX0_numberOf_1 : decode cX0_numberOf 1 = .ok (.iload_n 1, 1) := by decide +kernel
theorem dX0_numberOf_2 : decode cX0_numberOf 2 = .ok (.invokevirtual 64, 3) := by decide +kernel
theorem dX0_numberOf_5 : decode cX0_numberOf 5 = .ok (.ifCond .ne 6, 3) := by decide +kernel
theorem dX0_numberOf_8 : decode cX0_numberOf 8 = .ok (.bipush (-5), 2) := by decide +kernel
theorem dX0_numberOf_10 : decode cX0_numberOf 10 = .ok (.ireturn, 1) := by decide +kernel
theorem dX0_numberOf_11 : decode cX0_numberOf 11 = .ok (.iconst 0, 1) := by decide +kernel
theorem dX0_numberOf_12 : decode cX0_numberOf 12 = .ok (.istore_n 2, 1) := by decide +kernel
theorem dX0_numberOf_13 : decode cX0_numberOf 13 = .ok (.iconst 1, 1) := by decide +kernel
theorem dX0_numberOf_14 : decode cX0_numberOf 14 = .ok (.istore_n 3, 1) := by decide +kernel
theorem dX0_numberOf_15 : decode cX0_numberOf 15 = .ok (.iload_n 3, 1) := by decide +kernel
theorem dX0_numberOf_16 : decode cX0_numberOf 16 = .ok (.iload_n 1, 1) := by decide +kernel
theorem dX0_numberOf_17 : decode cX0_numberOf 17 = .ok (.if_icmp .ge 20, 3) := by decide +kernel
theorem dX0_numberOf_20 : decode cX0_numberOf 20 = .ok (.aload_n 0, 1) := by decide +kernel
theorem dX0_numberOf_21 : decode cX0_numberOf 21 = .ok (.iload_n 3, 1) := by decide +kernel
theorem dX0_numberOf_22 : decode cX0_numberOf 22 = .ok (.invokevirtual 64, 3) := by decide +kernel
theorem dX0_numberOf_25 : decode cX0_numberOf 25 = .ok (.ifCond .eq 6, 3) := by decide +kernel
theorem dX0_numberOf_28 : decode cX0_numberOf 28 = .ok (.iinc 2 1, 3) := by decide +kernel
theorem dX0_numberOf_31 : decode cX0_numberOf 31 = .ok (.iinc 3 1, 3) := by decide +kernel
theorem dX0_numberOf_34 : decode cX0_numberOf 34 = .ok (.goto (-19), 3) := by decide +kernel
theorem dX0_numberOf_37 : decode cX0_numberOf 37 = .ok (.iload_n 2, 1) := by decide +kernel
theorem dX0_numberOf_38 : decode cX0_numberOf 38 = .ok (.ireturn, 1) := by decide +kernel
theorem dX0_flipAt_0 : decode cX0_flipAt 0 = .ok (.aload_n 0, 1) := by decide +kernel
theorem dX0_flipAt_1 : decode cX0_flipAt 1 = .ok (.iload_n 1, 1) := by decide +kernel
theorem dX0_flipAt_2 : decode cX0_flipAt 2 = .ok (.invokevirtual 64, 3) := by decide +kernel
theorem dX0_flipAt_5 : decode cX0_flipAt 5 = .ok (.istore_n 2, 1) := by decide +kernel
theorem dX0_flipAt_6 : decode cX0_flipAt 6 = .ok (.iload_n 2, 1) := by decide +kernel
theorem dX0_flipAt_7 : decode cX0_flipAt 7 = .ok (.ifCond .eq 10, 3) := by decide +kernel
theorem dX0_flipAt_10 : decode cX0_flipAt 10 = .ok (.aload_n 0, 1) := by decide +kernel
theorem dX0_flipAt_11 : decode cX0_flipAt 11 = .ok (.iload_n 1, 1) := by decide +kernel
theorem dX0_flipAt_12 : decode cX0_flipAt 12 = .ok (.iload_n 2, 1) := by decide +kernel
theorem dX0_flipAt_13 : decode cX0_flipAt 13 = .ok (.ior, 1) := by decide +kernel
theorem dX0_flipAt_14 : decode cX0_flipAt 14 = .ok (.invokevirtual 41, 3) := by decide +kernel
theorem dX0_flipAt_17 : decode cX0_flipAt 17 = .ok (.return_, 1) := by decide +kernel
theorem dX0_firstFewer_0 : decode cX0_firstFewer 0 = .ok (.iconst 1, 1) := by decide +kernel
theorem dX0_firstFewer_1 : decode cX0_firstFewer 1 = .ok (.istore_n 1, 1) := by decide +kernel
theorem dX0_firstFewer_2 : decode cX0_firstFewer 2 = .ok (.iload_n 1, 1) := by decide +kernel
theorem dX0_firstFewer_3 : decode cX0_firstFewer 3 = .ok (.sipush 256, 3) := by decide +kernel
theorem dX0_firstFewer_6 : decode cX0_firstFewer 6 = .ok (.if_icmp .ge 32, 3) := by decide +kernel
theorem dX0_firstFewer_9 : decode cX0_firstFewer 9 = .ok (.aload_n 0, 1) := by decide +kernel
theorem dX0_firstFewer_10 : decode cX0_firstFewer 10 = .ok (.getfield 15, 3) := by decide +kernel
theorem dX0_firstFewer_13 : decode cX0_firstFewer 13 = .ok (.iload_n 1, 1) := by decide +kernel
theorem dX0_firstFewer_14 : decode cX0_firstFewer 14 = .ok (.iaload, 1) := by decide +kernel
theorem dX0_firstFewer_15 : decode cX0_firstFewer 15 = .ok (.iload_n 1, 1) := by decide +kernel
theorem dX0_firstFewer_16 : decode cX0_firstFewer 16 = .ok (.invokestatic 25, 3) := by decide +kernel
theorem dX0_firstFewer_19 : decode cX0_firstFewer 19 = .ok (.if_icmp .le 13, 3) := by decide +kernel
theorem dX0_firstFewer_22 : decode cX0_firstFewer 22 = .ok (.aload_n 0, 1) := by decide +kernel
theorem dX0_firstFewer_23 : decode cX0_firstFewer 23 = .ok (.iload_n 1, 1) := by decide +kernel
theorem dX0_firstFewer_24 : decode cX0_firstFewer 24 = .ok (.invokevirtual 64, 3) := by decide +kernel
theorem dX0_firstFewer_27 : decode cX0_firstFewer 27 = .ok (.ifCond .eq 5, 3) := by decide +kernel
theorem dX0_firstFewer_30 : decode cX0_firstFewer 30 = .ok (.iload_n 1, 1) := by decide +kernel
theorem dX0_firstFewer_31 : decode cX0_firstFewer 31 = .ok (.ireturn, 1) := by decide +kernel
theorem dX0_firstFewer_32 : decode cX0_firstFewer 32 = .ok (.iinc 1 1, 3) := by decide +kernel
theorem dX0_firstFewer_35 : decode cX0_firstFewer 35 = .ok (.goto (-33), 3) := by decide +kernel
theorem dX0_firstFewer_38 : decode cX0_firstFewer 38 = .ok (.iconst 0, 1) := by decide +kernel
theorem dX0_firstFewer_39 : decode cX0_firstFewer 39 = .ok (.ireturn, 1) := by decide +kernel
theorem dX1_init_0 : decode cX1_init 0 = .ok (.aload_n 0, 1) := by decide +kernel
theorem dX1_init_1 : decode cX1_init 1 = .ok (.invokespecial 3, 3) := by decide +kernel
theorem dX1_init_4 : decode cX1_init 4 = .ok (.aload_n 0, 1) := by decide +kernel
theorem dX1_init_5 : decode cX1_init 5 = .ok (.sipush 256, 3) := by decide +kernel
theorem dX1_init_8 : decode cX1_init 8 = .ok (.newarray .int, 2) := by decide +kernel
theorem dX1_init_10 : decode cX1_init 10 = .ok (.putfield 9, 3) := by decide +kernel
theorem dX1_init_13 : decode cX1_init 13 = .ok (.return_, 1) := by decide +kernel
theorem dX1_fit_0 : decode cX1_fit 0 = .ok (.aload_n 1, 1) := by decide +kernel
theorem dX1_fit_1 : decode cX1_fit 1 = .ok (.getfield 15, 3) := by decide +kernel
theorem dX1_fit_4 : decode cX1_fit 4 = .ok (.aload_n 2, 1) := by decide +kernel
theorem dX1_fit_5 : decode cX1_fit 5 = .ok (.getfield 15, 3) := by decide +kernel
theorem dX1_fit_8 : decode cX1_fit 8 = .ok (.if_icmp .ne 14, 3) := by decide +kernel
theorem dX1_fit_11 : decode cX1_fit 11 = .ok (.aload_n 1, 1) := by decide +kernel
theorem dX1_fit_12 : decode cX1_fit 12 = .ok (.invokevirtual 21, 3) := by decide +kernel
theorem dX1_fit_15 : decode cX1_fit 15 = .ok (.aload_n 2, 1) := by decide +kernel
theorem dX1_fit_16 : decode cX1_fit 16 = .ok (.invokevirtual 21, 3) := by decide +kernel
theorem dX1_fit_19 : decode cX1_fit 19 = .ok (.if_icmp .eq 5, 3) := by decide +kernel
theorem dX1_fit_22 : decode cX1_fit 22 = .ok (.iconst 0, 1) := by decide +kernel
theorem dX1_fit_23 : decode cX1_fit 23 = .ok (.ireturn, 1) := by decide +kernel
theorem dX1_fit_24 : decode cX1_fit 24 = .ok (.aload_n 0, 1) := by decide +kernel
theorem dX1_fit_25 : decode cX1_fit 25 = .ok (.aload_n 1, 1) := by decide +kernel
theorem dX1_fit_26 : decode cX1_fit 26 = .ok (.putfield 25, 3) := by decide +kernel
theorem dX1_fit_29 : decode cX1_fit 29 = .ok (.aload_n 0, 1) := by decide +kernel
theorem dX1_fit_30 : decode cX1_fit 30 = .ok (.aload_n 2, 1) := by decide +kernel
theorem dX1_fit_31 : decode cX1_fit 31 = .ok (.putfield 29, 3) := by decide +kernel
theorem dX1_fit_34 : decode cX1_fit 34 = .ok (.aload_n 0, 1) := by decide +kernel
theorem dX1_fit_35 : decode cX1_fit 35 = .ok (.getfield 9, 3) := by decide +kernel
theorem dX1_fit_38 : decode cX1_fit 38 = .ok (.iconst 0, 1) := by decide +kernel
theorem dX1_fit_39 : decode cX1_fit 39 = .ok (.iconst 0, 1) := by decide +kernel
theorem dX1_fit_40 : decode cX1_fit 40 = .ok (.iastore, 1) := by decide +kernel
theorem dX1_fit_41 : decode cX1_fit 41 = .ok (.aload_n 0, 1) := by decide +kernel
theorem dX1_fit_42 : decode cX1_fit 42 = .ok (.iconst 0, 1) := by decide +kernel
theorem dX1_fit_43 : decode cX1_fit 43 = .ok (.invokestatic 32, 3) := by decide +kernel
theorem dX1_fit_46 : decode cX1_fit 46 = .ok (.ireturn, 1) := by decide +kernel
theorem dX1_name_0 : decode cX1_name 0 = .ok (.iload_n 1, 1) := by decide +kernel
theorem dX1_name_1 : decode cX1_name 1 = .ok (.bipush 8, 2) := by decide +kernel
theorem dX1_name_3 : decode cX1_name 3 = .ok (.if_icmp .lt 5, 3) := by decide +kernel
theorem dX1_name_6 : decode cX1_name 6 = .ok (.iconst 1, 1) := by decide +kernel
theorem dX1_name_7 : decode cX1_name 7 = .ok (.ireturn, 1) := by decide +kernel
theorem dX1_name_8 : decode cX1_name 8 = .ok (.aload_n 0, 1) := by decide +kernel
theorem dX1_name_9 : decode cX1_name 9 = .ok (.getfield 9, 3) := by decide +kernel
theorem dX1_name_12 : decode cX1_name 12 = .ok (.iconst 1, 1) := by decide +kernel
theorem dX1_name_13 : decode cX1_name 13 = .ok (.iload_n 1, 1) := by decide +kernel
theorem dX1_name_14 : decode cX1_name 14 = .ok (.ishl, 1) := by decide +kernel
theorem dX1_name_15 : decode cX1_name 15 = .ok (.iconst 1, 1) := by decide +kernel
theorem dX1_name_16 : decode cX1_name 16 = .ok (.isub, 1) := by decide +kernel
theorem dX1_name_17 : decode cX1_name 17 = .ok (.iaload, 1) := by decide +kernel
theorem dX1_name_18 : decode cX1_name 18 = .ok (.istore_n 2, 1) := by decide +kernel
theorem dX1_name_19 : decode cX1_name 19 = .ok (.iconst 0, 1) := by decide +kernel
theorem dX1_name_20 : decode cX1_name 20 = .ok (.istore_n 3, 1) := by decide +kernel
theorem dX1_name_21 : decode cX1_name 21 = .ok (.iload_n 3, 1) := by decide +kernel
theorem dX1_name_22 : decode cX1_name 22 = .ok (.bipush 8, 2) := by decide +kernel
theorem dX1_name_24 : decode cX1_name 24 = .ok (.if_icmp .ge 40, 3) := by decide +kernel
theorem dX1_name_27 : decode cX1_name 27 = .ok (.iload_n 2, 1) := by decide +kernel
theorem dX1_name_28 : decode cX1_name 28 = .ok (.iload_n 3, 1) := by decide +kernel
theorem dX1_name_29 : decode cX1_name 29 = .ok (.ishr, 1) := by decide +kernel
theorem dX1_name_30 : decode cX1_name 30 = .ok (.iconst 1, 1) := by decide +kernel
theorem dX1_name_31 : decode cX1_name 31 = .ok (.iand, 1) := by decide +kernel
theorem dX1_name_32 : decode cX1_name 32 = .ok (.ifCond .ne 26, 3) := by decide +kernel
theorem dX1_name_35 : decode cX1_name 35 = .ok (.aload_n 0, 1) := by decide +kernel
theorem dX1_name_36 : decode cX1_name 36 = .ok (.iload_n 1, 1) := by decide +kernel
theorem dX1_name_37 : decode cX1_name 37 = .ok (.iconst 1, 1) := by decide +kernel
theorem dX1_name_38 : decode cX1_name 38 = .ok (.iload_n 3, 1) := by decide +kernel
theorem dX1_name_39 : decode cX1_name 39 = .ok (.ishl, 1) := by decide +kernel
theorem dX1_name_40 : decode cX1_name 40 = .ok (.invokevirtual 36, 3) := by decide +kernel
theorem dX1_name_43 : decode cX1_name 43 = .ok (.ifCond .eq 15, 3) := by decide +kernel
theorem dX1_name_46 : decode cX1_name 46 = .ok (.aload_n 0, 1) := by decide +kernel
theorem dX1_name_47 : decode cX1_name 47 = .ok (.iload_n 1, 1) := by decide +kernel
theorem dX1_name_48 : decode cX1_name 48 = .ok (.iconst 1, 1) := by decide +kernel
theorem dX1_name_49 : decode cX1_name 49 = .ok (.iadd, 1) := by decide +kernel
theorem dX1_name_50 : decode cX1_name 50 = .ok (.invokestatic 32, 3) := by decide +kernel
theorem dX1_name_53 : decode cX1_name 53 = .ok (.ifCond .eq 5, 3) := by decide +kernel
theorem dX1_name_56 : decode cX1_name 56 = .ok (.iconst 1, 1) := by decide +kernel
theorem dX1_name_57 : decode cX1_name 57 = .ok (.ireturn, 1) := by decide +kernel
theorem dX1_name_58 : decode cX1_name 58 = .ok (.iinc 3 1, 3) := by decide +kernel
theorem dX1_name_61 : decode cX1_name 61 = .ok (.goto (-40), 3) := by decide +kernel
theorem dX1_name_64 : decode cX1_name 64 = .ok (.iconst 0, 1) := by decide +kernel
theorem dX1_name_65 : decode cX1_name 65 = .ok (.ireturn, 1) := by decide +kernel
theorem dX1_agrees_0 : decode cX1_agrees 0 = .ok (.iconst 1, 1) := by decide +kernel
theorem dX1_agrees_1 : decode cX1_agrees 1 = .ok (.iload_n 1, 1) := by decide +kernel
theorem dX1_agrees_2 : decode cX1_agrees 2 = .ok (.ishl, 1) := by decide +kernel
theorem dX1_agrees_3 : decode cX1_agrees 3 = .ok (.istore_n 3, 1) := by decide +kernel
theorem dX1_agrees_4 : decode cX1_agrees 4 = .ok (.iconst 0, 1) := by decide +kernel
theorem dX1_agrees_5 : decode cX1_agrees 5 = .ok (.istore 4, 2) := by decide +kernel
theorem dX1_agrees_7 : decode cX1_agrees 7 = .ok (.iload 4, 2) := by decide +kernel
theorem dX1_agrees_9 : decode cX1_agrees 9 = .ok (.iload_n 3, 1) := by decide +kernel
theorem dX1_agrees_10 : decode cX1_agrees 10 = .ok (.if_icmp .ge 58, 3) := by decide +kernel
theorem dX1_agrees_13 : decode cX1_agrees 13 = .ok (.aload_n 0, 1) := by decide +kernel
theorem dX1_agrees_14 : decode cX1_agrees 14 = .ok (.getfield 9, 3) := by decide +kernel
theorem dX1_agrees_17 : decode cX1_agrees 17 = .ok (.iload 4, 2) := by decide +kernel
theorem dX1_agrees_19 : decode cX1_agrees 19 = .ok (.iaload, 1) := by decide +kernel
theorem dX1_agrees_20 : decode cX1_agrees 20 = .ok (.iload_n 2, 1) := by decide +kernel
theorem dX1_agrees_21 : decode cX1_agrees 21 = .ok (.ior, 1) := by decide +kernel
theorem dX1_agrees_22 : decode cX1_agrees 22 = .ok (.istore 5, 2) := by decide +kernel
theorem dX1_agrees_24 : decode cX1_agrees 24 = .ok (.aload_n 0, 1) := by decide +kernel
theorem dX1_agrees_25 : decode cX1_agrees 25 = .ok (.getfield 25, 3) := by decide +kernel
theorem dX1_agrees_28 : decode cX1_agrees 28 = .ok (.getfield 40, 3) := by decide +kernel
theorem dX1_agrees_31 : decode cX1_agrees 31 = .ok (.iload 4, 2) := by decide +kernel
theorem dX1_agrees_33 : decode cX1_agrees 33 = .ok (.iload_n 3, 1) := by decide +kernel
theorem dX1_agrees_34 : decode cX1_agrees 34 = .ok (.ior, 1) := by decide +kernel
theorem dX1_agrees_35 : decode cX1_agrees 35 = .ok (.iaload, 1) := by decide +kernel
theorem dX1_agrees_36 : decode cX1_agrees 36 = .ok (.aload_n 0, 1) := by decide +kernel
theorem dX1_agrees_37 : decode cX1_agrees 37 = .ok (.getfield 29, 3) := by decide +kernel
theorem dX1_agrees_40 : decode cX1_agrees 40 = .ok (.getfield 40, 3) := by decide +kernel
theorem dX1_agrees_43 : decode cX1_agrees 43 = .ok (.iload 5, 2) := by decide +kernel
theorem dX1_agrees_45 : decode cX1_agrees 45 = .ok (.iaload, 1) := by decide +kernel
theorem dX1_agrees_46 : decode cX1_agrees 46 = .ok (.if_icmp .eq 5, 3) := by decide +kernel
theorem dX1_agrees_49 : decode cX1_agrees 49 = .ok (.iconst 0, 1) := by decide +kernel
theorem dX1_agrees_50 : decode cX1_agrees 50 = .ok (.ireturn, 1) := by decide +kernel
theorem dX1_agrees_51 : decode cX1_agrees 51 = .ok (.aload_n 0, 1) := by decide +kernel
theorem dX1_agrees_52 : decode cX1_agrees 52 = .ok (.getfield 9, 3) := by decide +kernel
theorem dX1_agrees_55 : decode cX1_agrees 55 = .ok (.iload 4, 2) := by decide +kernel
theorem dX1_agrees_57 : decode cX1_agrees 57 = .ok (.iload_n 3, 1) := by decide +kernel
theorem dX1_agrees_58 : decode cX1_agrees 58 = .ok (.ior, 1) := by decide +kernel
theorem dX1_agrees_59 : decode cX1_agrees 59 = .ok (.iload 5, 2) := by decide +kernel
theorem dX1_agrees_61 : decode cX1_agrees 61 = .ok (.iastore, 1) := by decide +kernel
theorem dX1_agrees_62 : decode cX1_agrees 62 = .ok (.iinc 4 1, 3) := by decide +kernel
theorem dX1_agrees_65 : decode cX1_agrees 65 = .ok (.goto (-58), 3) := by decide +kernel
theorem dX1_agrees_68 : decode cX1_agrees 68 = .ok (.iconst 1, 1) := by decide +kernel
theorem dX1_agrees_69 : decode cX1_agrees 69 = .ok (.ireturn, 1) := by decide +kernel
theorem dX2_init_0 : decode cX2_init 0 = .ok (.aload_n 0, 1) := by decide +kernel
theorem dX2_init_1 : decode cX2_init 1 = .ok (.invokespecial 3, 3) := by decide +kernel
theorem dX2_init_4 : decode cX2_init 4 = .ok (.aload_n 0, 1) := by decide +kernel
theorem dX2_init_5 : decode cX2_init 5 = .ok (.bipush 8, 2) := by decide +kernel
theorem dX2_init_7 : decode cX2_init 7 = .ok (.anewarray 9, 3) := by decide +kernel
theorem dX2_init_10 : decode cX2_init 10 = .ok (.putfield 11, 3) := by decide +kernel
theorem dX2_init_13 : decode cX2_init 13 = .ok (.iconst 0, 1) := by decide +kernel
theorem dX2_init_14 : decode cX2_init 14 = .ok (.istore_n 1, 1) := by decide +kernel
theorem dX2_init_15 : decode cX2_init 15 = .ok (.iload_n 1, 1) := by decide +kernel
theorem dX2_init_16 : decode cX2_init 16 = .ok (.bipush 8, 2) := by decide +kernel
theorem dX2_init_18 : decode cX2_init 18 = .ok (.if_icmp .ge 22, 3) := by decide +kernel
theorem dX2_init_21 : decode cX2_init 21 = .ok (.aload_n 0, 1) := by decide +kernel
theorem dX2_init_22 : decode cX2_init 22 = .ok (.getfield 11, 3) := by decide +kernel
theorem dX2_init_25 : decode cX2_init 25 = .ok (.iload_n 1, 1) := by decide +kernel
theorem dX2_init_26 : decode cX2_init 26 = .ok (.new 9, 3) := by decide +kernel
theorem dX2_init_29 : decode cX2_init 29 = .ok (.dup, 1) := by decide +kernel
theorem dX2_init_30 : decode cX2_init 30 = .ok (.invokespecial 17, 3) := by decide +kernel
theorem dX2_init_33 : decode cX2_init 33 = .ok (.aastore, 1) := by decide +kernel
theorem dX2_init_34 : decode cX2_init 34 = .ok (.iinc 1 1, 3) := by decide +kernel
theorem dX2_init_37 : decode cX2_init 37 = .ok (.goto (-22), 3) := by decide +kernel
theorem dX2_init_40 : decode cX2_init 40 = .ok (.return_, 1) := by decide +kernel
theorem dX2_note_0 : decode cX2_note 0 = .ok (.aload_n 0, 1) := by decide +kernel
theorem dX2_note_1 : decode cX2_note 1 = .ok (.getfield 11, 3) := by decide +kernel
theorem dX2_note_4 : decode cX2_note 4 = .ok (.aload_n 0, 1) := by decide +kernel
theorem dX2_note_5 : decode cX2_note 5 = .ok (.getfield 18, 3) := by decide +kernel
theorem dX2_note_8 : decode cX2_note 8 = .ok (.aaload, 1) := by decide +kernel
theorem dX2_note_9 : decode cX2_note 9 = .ok (.aload_n 1, 1) := by decide +kernel
theorem dX2_note_10 : decode cX2_note 10 = .ok (.invokevirtual 22, 3) := by decide +kernel
theorem dX2_note_13 : decode cX2_note 13 = .ok (.aload_n 0, 1) := by decide +kernel
theorem dX2_note_14 : decode cX2_note 14 = .ok (.aload_n 0, 1) := by decide +kernel
theorem dX2_note_15 : decode cX2_note 15 = .ok (.getfield 18, 3) := by decide +kernel
theorem dX2_note_18 : decode cX2_note 18 = .ok (.iconst 1, 1) := by decide +kernel
theorem dX2_note_19 : decode cX2_note 19 = .ok (.iadd, 1) := by decide +kernel
theorem dX2_note_20 : decode cX2_note 20 = .ok (.bipush 8, 2) := by decide +kernel
theorem dX2_note_22 : decode cX2_note 22 = .ok (.irem, 1) := by decide +kernel
theorem dX2_note_23 : decode cX2_note 23 = .ok (.putfield 18, 3) := by decide +kernel
theorem dX2_note_26 : decode cX2_note 26 = .ok (.aload_n 0, 1) := by decide +kernel
theorem dX2_note_27 : decode cX2_note 27 = .ok (.aload_n 0, 1) := by decide +kernel
theorem dX2_note_28 : decode cX2_note 28 = .ok (.getfield 26, 3) := by decide +kernel
theorem dX2_note_31 : decode cX2_note 31 = .ok (.iconst 1, 1) := by decide +kernel
theorem dX2_note_32 : decode cX2_note 32 = .ok (.iadd, 1) := by decide +kernel
theorem dX2_note_33 : decode cX2_note 33 = .ok (.bipush 8, 2) := by decide +kernel
theorem dX2_note_35 : decode cX2_note 35 = .ok (.invokestatic 29, 3) := by decide +kernel
theorem dX2_note_38 : decode cX2_note 38 = .ok (.putfield 26, 3) := by decide +kernel
theorem dX2_note_41 : decode cX2_note 41 = .ok (.return_, 1) := by decide +kernel
theorem dX2_restore_0 : decode cX2_restore 0 = .ok (.aload_n 0, 1) := by decide +kernel
theorem dX2_restore_1 : decode cX2_restore 1 = .ok (.getfield 26, 3) := by decide +kernel
theorem dX2_restore_4 : decode cX2_restore 4 = .ok (.ifCond .le 42, 3) := by decide +kernel
theorem dX2_restore_7 : decode cX2_restore 7 = .ok (.aload_n 0, 1) := by decide +kernel
theorem dX2_restore_8 : decode cX2_restore 8 = .ok (.aload_n 0, 1) := by decide +kernel
theorem dX2_restore_9 : decode cX2_restore 9 = .ok (.getfield 18, 3) := by decide +kernel
theorem dX2_restore_12 : decode cX2_restore 12 = .ok (.bipush 8, 2) := by decide +kernel
theorem dX2_restore_14 : decode cX2_restore 14 = .ok (.iadd, 1) := by decide +kernel
theorem dX2_restore_15 : decode cX2_restore 15 = .ok (.iconst 1, 1) := by decide +kernel
theorem dX2_restore_16 : decode cX2_restore 16 = .ok (.isub, 1) := by decide +kernel
theorem dX2_restore_17 : decode cX2_restore 17 = .ok (.bipush 8, 2) := by decide +kernel
theorem dX2_restore_19 : decode cX2_restore 19 = .ok (.irem, 1) := by decide +kernel
theorem dX2_restore_20 : decode cX2_restore 20 = .ok (.putfield 18, 3) := by decide +kernel
theorem dX2_restore_23 : decode cX2_restore 23 = .ok (.aload_n 0, 1) := by decide +kernel
theorem dX2_restore_24 : decode cX2_restore 24 = .ok (.dup, 1) := by decide +kernel
theorem dX2_restore_25 : decode cX2_restore 25 = .ok (.getfield 26, 3) := by decide +kernel
theorem dX2_restore_28 : decode cX2_restore 28 = .ok (.iconst 1, 1) := by decide +kernel
theorem dX2_restore_29 : decode cX2_restore 29 = .ok (.isub, 1) := by decide +kernel
theorem dX2_restore_30 : decode cX2_restore 30 = .ok (.putfield 26, 3) := by decide +kernel
theorem dX2_restore_33 : decode cX2_restore 33 = .ok (.aload_n 1, 1) := by decide +kernel
theorem dX2_restore_34 : decode cX2_restore 34 = .ok (.aload_n 0, 1) := by decide +kernel
theorem dX2_restore_35 : decode cX2_restore 35 = .ok (.getfield 11, 3) := by decide +kernel
theorem dX2_restore_38 : decode cX2_restore 38 = .ok (.aload_n 0, 1) := by decide +kernel
theorem dX2_restore_39 : decode cX2_restore 39 = .ok (.getfield 18, 3) := by decide +kernel
theorem dX2_restore_42 : decode cX2_restore 42 = .ok (.aaload, 1) := by decide +kernel
theorem dX2_restore_43 : decode cX2_restore 43 = .ok (.invokevirtual 22, 3) := by decide +kernel
theorem dX2_restore_46 : decode cX2_restore 46 = .ok (.return_, 1) := by decide +kernel
theorem dX2_forget_0 : decode cX2_forget 0 = .ok (.aload_n 0, 1) := by decide +kernel
theorem dX2_forget_1 : decode cX2_forget 1 = .ok (.iconst 0, 1) := by decide +kernel
theorem dX2_forget_2 : decode cX2_forget 2 = .ok (.putfield 26, 3) := by decide +kernel
theorem dX2_forget_5 : decode cX2_forget 5 = .ok (.return_, 1) := by decide +kernel
theorem dX3_init_0 : decode cX3_init 0 = .ok (.aload_n 0, 1) := by decide +kernel
theorem dX3_init_1 : decode cX3_init 1 = .ok (.invokespecial 3, 3) := by decide +kernel
theorem dX3_init_4 : decode cX3_init 4 = .ok (.aload_n 0, 1) := by decide +kernel
theorem dX3_init_5 : decode cX3_init 5 = .ok (.sipush 160, 3) := by decide +kernel
theorem dX3_init_8 : decode cX3_init 8 = .ok (.newarray .int, 2) := by decide +kernel
theorem dX3_init_10 : decode cX3_init 10 = .ok (.putfield 9, 3) := by decide +kernel
theorem dX3_init_13 : decode cX3_init 13 = .ok (.aload_n 0, 1) := by decide +kernel
theorem dX3_init_14 : decode cX3_init 14 = .ok (.iconst 4, 1) := by decide +kernel
theorem dX3_init_15 : decode cX3_init 15 = .ok (.newarray .int, 2) := by decide +kernel
theorem dX3_init_17 : decode cX3_init 17 = .ok (.putfield 15, 3) := by decide +kernel
theorem dX3_init_20 : decode cX3_init 20 = .ok (.iconst 0, 1) := by decide +kernel
theorem dX3_init_21 : decode cX3_init 21 = .ok (.istore_n 1, 1) := by decide +kernel
theorem dX3_init_22 : decode cX3_init 22 = .ok (.iload_n 1, 1) := by decide +kernel
theorem dX3_init_23 : decode cX3_init 23 = .ok (.iconst 4, 1) := by decide +kernel
theorem dX3_init_24 : decode cX3_init 24 = .ok (.if_icmp .ge 17, 3) := by decide +kernel
theorem dX3_init_27 : decode cX3_init 27 = .ok (.aload_n 0, 1) := by decide +kernel
theorem dX3_init_28 : decode cX3_init 28 = .ok (.getfield 15, 3) := by decide +kernel
theorem dX3_init_31 : decode cX3_init 31 = .ok (.iload_n 1, 1) := by decide +kernel
theorem dX3_init_32 : decode cX3_init 32 = .ok (.bipush (-11), 2) := by decide +kernel
theorem dX3_init_34 : decode cX3_init 34 = .ok (.iastore, 1) := by decide +kernel
theorem dX3_init_35 : decode cX3_init 35 = .ok (.iinc 1 1, 3) := by decide +kernel
theorem dX3_init_38 : decode cX3_init 38 = .ok (.goto (-16), 3) := by decide +kernel
theorem dX3_init_41 : decode cX3_init 41 = .ok (.return_, 1) := by decide +kernel
theorem dX3_isList_0 : decode cX3_isList 0 = .ok (.iload_n 1, 1) := by decide +kernel
theorem dX3_isList_1 : decode cX3_isList 1 = .ok (.ifCond .lt 12, 3) := by decide +kernel
theorem dX3_isList_4 : decode cX3_isList 4 = .ok (.iload_n 1, 1) := by decide +kernel
theorem dX3_isList_5 : decode cX3_isList 5 = .ok (.iconst 4, 1) := by decide +kernel
theorem dX3_isList_6 : decode cX3_isList 6 = .ok (.if_icmp .ge 7, 3) := by decide +kernel
theorem dX3_isList_9 : decode cX3_isList 9 = .ok (.iconst 1, 1) := by decide +kernel
theorem dX3_isList_10 : decode cX3_isList 10 = .ok (.goto 4, 3) := by decide +kernel
theorem dX3_isList_13 : decode cX3_isList 13 = .ok (.iconst 0, 1) := by decide +kernel
theorem dX3_isList_14 : decode cX3_isList 14 = .ok (.ireturn, 1) := by decide +kernel
theorem dX3_state_0 : decode cX3_state 0 = .ok (.aload_n 0, 1) := by decide +kernel
theorem dX3_state_1 : decode cX3_state 1 = .ok (.iload_n 1, 1) := by decide +kernel
theorem dX3_state_2 : decode cX3_state 2 = .ok (.invokevirtual 18, 3) := by decide +kernel
theorem dX3_state_5 : decode cX3_state 5 = .ok (.ifCond .ne 5, 3) := by decide +kernel
theorem dX3_state_8 : decode cX3_state 8 = .ok (.iconst (-1), 1) := by decide +kernel
theorem dX3_state_9 : decode cX3_state 9 = .ok (.ireturn, 1) := by decide +kernel
theorem dX3_state_10 : decode cX3_state 10 = .ok (.aload_n 0, 1) := by decide +kernel
theorem dX3_state_11 : decode cX3_state 11 = .ok (.getfield 15, 3) := by decide +kernel
theorem dX3_state_14 : decode cX3_state 14 = .ok (.iload_n 1, 1) := by decide +kernel
theorem dX3_state_15 : decode cX3_state 15 = .ok (.iaload, 1) := by decide +kernel
theorem dX3_state_16 : decode cX3_state 16 = .ok (.iconst 0, 1) := by decide +kernel
theorem dX3_state_17 : decode cX3_state 17 = .ok (.invokestatic 22, 3) := by decide +kernel
theorem dX3_state_20 : decode cX3_state 20 = .ok (.ireturn, 1) := by decide +kernel
theorem dX3_sizeOf_0 : decode cX3_sizeOf 0 = .ok (.aload_n 0, 1) := by decide +kernel
theorem dX3_sizeOf_1 : decode cX3_sizeOf 1 = .ok (.getfield 15, 3) := by decide +kernel
theorem dX3_sizeOf_4 : decode cX3_sizeOf 4 = .ok (.iload_n 1, 1) := by decide +kernel
theorem dX3_sizeOf_5 : decode cX3_sizeOf 5 = .ok (.iaload, 1) := by decide +kernel
theorem dX3_sizeOf_6 : decode cX3_sizeOf 6 = .ok (.ireturn, 1) := by decide +kernel
theorem dX3_at_0 : decode cX3_at 0 = .ok (.aload_n 0, 1) := by decide +kernel
theorem dX3_at_1 : decode cX3_at 1 = .ok (.getfield 9, 3) := by decide +kernel
theorem dX3_at_4 : decode cX3_at 4 = .ok (.iload_n 1, 1) := by decide +kernel
theorem dX3_at_5 : decode cX3_at 5 = .ok (.bipush 40, 2) := by decide +kernel
theorem dX3_at_7 : decode cX3_at 7 = .ok (.imul, 1) := by decide +kernel
theorem dX3_at_8 : decode cX3_at 8 = .ok (.iload_n 2, 1) := by decide +kernel
theorem dX3_at_9 : decode cX3_at 9 = .ok (.iadd, 1) := by decide +kernel
theorem dX3_at_10 : decode cX3_at 10 = .ok (.iaload, 1) := by decide +kernel
theorem dX3_at_11 : decode cX3_at 11 = .ok (.ireturn, 1) := by decide +kernel
theorem dX3_set_0 : decode cX3_set 0 = .ok (.aload_n 0, 1) := by decide +kernel
theorem dX3_set_1 : decode cX3_set 1 = .ok (.getfield 9, 3) := by decide +kernel
theorem dX3_set_4 : decode cX3_set 4 = .ok (.iload_n 1, 1) := by decide +kernel
theorem dX3_set_5 : decode cX3_set 5 = .ok (.bipush 40, 2) := by decide +kernel
theorem dX3_set_7 : decode cX3_set 7 = .ok (.imul, 1) := by decide +kernel
theorem dX3_set_8 : decode cX3_set 8 = .ok (.iload_n 2, 1) := by decide +kernel
theorem dX3_set_9 : decode cX3_set 9 = .ok (.iadd, 1) := by decide +kernel
theorem dX3_set_10 : decode cX3_set 10 = .ok (.iload_n 3, 1) := by decide +kernel
theorem dX3_set_11 : decode cX3_set 11 = .ok (.iastore, 1) := by decide +kernel
theorem dX3_set_12 : decode cX3_set 12 = .ok (.return_, 1) := by decide +kernel
theorem dX3_start_0 : decode cX3_start 0 = .ok (.aload_n 0, 1) := by decide +kernel
theorem dX3_start_1 : decode cX3_start 1 = .ok (.getfield 15, 3) := by decide +kernel
theorem dX3_start_4 : decode cX3_start 4 = .ok (.iload_n 1, 1) := by decide +kernel
theorem dX3_start_5 : decode cX3_start 5 = .ok (.iload_n 2, 1) := by decide +kernel
theorem dX3_start_6 : decode cX3_start 6 = .ok (.iastore, 1) := by decide +kernel
theorem dX3_start_7 : decode cX3_start 7 = .ok (.iconst 0, 1) := by decide +kernel
theorem dX3_start_8 : decode cX3_start 8 = .ok (.istore_n 3, 1) := by decide +kernel
theorem dX3_start_9 : decode cX3_start 9 = .ok (.iload_n 3, 1) := by decide +kernel
theorem dX3_start_10 : decode cX3_start 10 = .ok (.iload_n 2, 1) := by decide +kernel
theorem dX3_start_11 : decode cX3_start 11 = .ok (.if_icmp .ge 16, 3) := by decide +kernel
theorem dX3_start_14 : decode cX3_start 14 = .ok (.aload_n 0, 1) := by decide +kernel
theorem dX3_start_15 : decode cX3_start 15 = .ok (.iload_n 1, 1) := by decide +kernel
theorem dX3_start_16 : decode cX3_start 16 = .ok (.iload_n 3, 1) := by decide +kernel
theorem dX3_start_17 : decode cX3_start 17 = .ok (.iconst 0, 1) := by decide +kernel
theorem dX3_start_18 : decode cX3_start 18 = .ok (.invokevirtual 28, 3) := by decide +kernel
theorem dX3_start_21 : decode cX3_start 21 = .ok (.iinc 3 1, 3) := by decide +kernel
theorem dX3_start_24 : decode cX3_start 24 = .ok (.goto (-15), 3) := by decide +kernel
theorem dX3_start_27 : decode cX3_start 27 = .ok (.return_, 1) := by decide +kernel
theorem dX3_move_0 : decode cX3_move 0 = .ok (.aload_n 0, 1) := by decide +kernel
theorem dX3_move_1 : decode cX3_move 1 = .ok (.getfield 9, 3) := by decide +kernel
theorem dX3_move_4 : decode cX3_move 4 = .ok (.iload_n 1, 1) := by decide +kernel
theorem dX3_move_5 : decode cX3_move 5 = .ok (.bipush 40, 2) := by decide +kernel
theorem dX3_move_7 : decode cX3_move 7 = .ok (.imul, 1) := by decide +kernel
theorem dX3_move_8 : decode cX3_move 8 = .ok (.iload_n 2, 1) := by decide +kernel
theorem dX3_move_9 : decode cX3_move 9 = .ok (.iadd, 1) := by decide +kernel
theorem dX3_move_10 : decode cX3_move 10 = .ok (.aload_n 0, 1) := by decide +kernel
theorem dX3_move_11 : decode cX3_move 11 = .ok (.getfield 9, 3) := by decide +kernel
theorem dX3_move_14 : decode cX3_move 14 = .ok (.iload_n 3, 1) := by decide +kernel
theorem dX3_move_15 : decode cX3_move 15 = .ok (.bipush 40, 2) := by decide +kernel
theorem dX3_move_17 : decode cX3_move 17 = .ok (.imul, 1) := by decide +kernel
theorem dX3_move_18 : decode cX3_move 18 = .ok (.iload 4, 2) := by decide +kernel
theorem dX3_move_20 : decode cX3_move 20 = .ok (.iadd, 1) := by decide +kernel
theorem dX3_move_21 : decode cX3_move 21 = .ok (.iload 5, 2) := by decide +kernel
theorem dX3_move_23 : decode cX3_move 23 = .ok (.invokestatic 32, 3) := by decide +kernel
theorem dX3_move_26 : decode cX3_move 26 = .ok (.return_, 1) := by decide +kernel
theorem dX4_init_0 : decode cX4_init 0 = .ok (.aload_n 0, 1) := by decide +kernel
theorem dX4_init_1 : decode cX4_init 1 = .ok (.invokespecial 3, 3) := by decide +kernel
theorem dX4_init_4 : decode cX4_init 4 = .ok (.aload_n 0, 1) := by decide +kernel
theorem dX4_init_5 : decode cX4_init 5 = .ok (.new 9, 3) := by decide +kernel
theorem dX4_init_8 : decode cX4_init 8 = .ok (.dup, 1) := by decide +kernel
theorem dX4_init_9 : decode cX4_init 9 = .ok (.invokespecial 11, 3) := by decide +kernel
theorem dX4_init_12 : decode cX4_init 12 = .ok (.putfield 12, 3) := by decide +kernel
theorem dX4_init_15 : decode cX4_init 15 = .ok (.aload_n 0, 1) := by decide +kernel
theorem dX4_init_16 : decode cX4_init 16 = .ok (.iconst 3, 1) := by decide +kernel
theorem dX4_init_17 : decode cX4_init 17 = .ok (.newarray .int, 2) := by decide +kernel
theorem dX4_init_19 : decode cX4_init 19 = .ok (.putfield 18, 3) := by decide +kernel
theorem dX4_init_22 : decode cX4_init 22 = .ok (.return_, 1) := by decide +kernel
theorem dX4_fewest_0 : decode cX4_fewest 0 = .ok (.aload_n 0, 1) := by decide +kernel
theorem dX4_fewest_1 : decode cX4_fewest 1 = .ok (.getfield 12, 3) := by decide +kernel
theorem dX4_fewest_4 : decode cX4_fewest 4 = .ok (.aload_n 1, 1) := by decide +kernel
theorem dX4_fewest_5 : decode cX4_fewest 5 = .ok (.invokevirtual 22, 3) := by decide +kernel
theorem dX4_fewest_8 : decode cX4_fewest 8 = .ok (.aload_n 0, 1) := by decide +kernel
theorem dX4_fewest_9 : decode cX4_fewest 9 = .ok (.aload_n 2, 1) := by decide +kernel
theorem dX4_fewest_10 : decode cX4_fewest 10 = .ok (.putfield 26, 3) := by decide +kernel
theorem dX4_fewest_13 : decode cX4_fewest 13 = .ok (.aload_n 0, 1) := by decide +kernel
theorem dX4_fewest_14 : decode cX4_fewest 14 = .ok (.iload_n 3, 1) := by decide +kernel
theorem dX4_fewest_15 : decode cX4_fewest 15 = .ok (.putfield 29, 3) := by decide +kernel
theorem dX4_fewest_18 : decode cX4_fewest 18 = .ok (.aload_n 0, 1) := by decide +kernel
theorem dX4_fewest_19 : decode cX4_fewest 19 = .ok (.invokevirtual 33, 3) := by decide +kernel
theorem dX4_fewest_22 : decode cX4_fewest 22 = .ok (.istore 4, 2) := by decide +kernel
theorem dX4_fewest_24 : decode cX4_fewest 24 = .ok (.iconst 0, 1) := by decide +kernel
theorem dX4_fewest_25 : decode cX4_fewest 25 = .ok (.istore 5, 2) := by decide +kernel
theorem dX4_fewest_27 : decode cX4_fewest 27 = .ok (.iload 5, 2) := by decide +kernel
theorem dX4_fewest_29 : decode cX4_fewest 29 = .ok (.iconst 3, 1) := by decide +kernel
theorem dX4_fewest_30 : decode cX4_fewest 30 = .ok (.if_icmp .gt 24, 3) := by decide +kernel
theorem dX4_fewest_33 : decode cX4_fewest 33 = .ok (.aload_n 0, 1) := by decide +kernel
theorem dX4_fewest_34 : decode cX4_fewest 34 = .ok (.iload 5, 2) := by decide +kernel
theorem dX4_fewest_36 : decode cX4_fewest 36 = .ok (.iconst 0, 1) := by decide +kernel
theorem dX4_fewest_37 : decode cX4_fewest 37 = .ok (.iload 4, 2) := by decide +kernel
theorem dX4_fewest_39 : decode cX4_fewest 39 = .ok (.invokestatic 37, 3) := by decide +kernel
theorem dX4_fewest_42 : decode cX4_fewest 42 = .ok (.ifCond .eq 6, 3) := by decide +kernel
theorem dX4_fewest_45 : decode cX4_fewest 45 = .ok (.iload 5, 2) := by decide +kernel
theorem dX4_fewest_47 : decode cX4_fewest 47 = .ok (.ireturn, 1) := by decide +kernel
theorem dX4_fewest_48 : decode cX4_fewest 48 = .ok (.iinc 5 1, 3) := by decide +kernel
theorem dX4_fewest_51 : decode cX4_fewest 51 = .ok (.goto (-24), 3) := by decide +kernel
theorem dX4_fewest_54 : decode cX4_fewest 54 = .ok (.bipush (-5), 2) := by decide +kernel
theorem dX4_fewest_56 : decode cX4_fewest 56 = .ok (.ireturn, 1) := by decide +kernel
theorem dX4_gap_0 : decode cX4_gap 0 = .ok (.iconst 0, 1) := by decide +kernel
theorem dX4_gap_1 : decode cX4_gap 1 = .ok (.istore_n 1, 1) := by decide +kernel
theorem dX4_gap_2 : decode cX4_gap 2 = .ok (.iconst 1, 1) := by decide +kernel
theorem dX4_gap_3 : decode cX4_gap 3 = .ok (.istore_n 2, 1) := by decide +kernel
theorem dX4_gap_4 : decode cX4_gap 4 = .ok (.iload_n 2, 1) := by decide +kernel
theorem dX4_gap_5 : decode cX4_gap 5 = .ok (.sipush 256, 3) := by decide +kernel
theorem dX4_gap_8 : decode cX4_gap 8 = .ok (.if_icmp .ge 31, 3) := by decide +kernel
theorem dX4_gap_11 : decode cX4_gap 11 = .ok (.aload_n 0, 1) := by decide +kernel
theorem dX4_gap_12 : decode cX4_gap 12 = .ok (.getfield 12, 3) := by decide +kernel
theorem dX4_gap_15 : decode cX4_gap 15 = .ok (.iload_n 2, 1) := by decide +kernel
theorem dX4_gap_16 : decode cX4_gap 16 = .ok (.invokevirtual 41, 3) := by decide +kernel
theorem dX4_gap_19 : decode cX4_gap 19 = .ok (.aload_n 0, 1) := by decide +kernel
theorem dX4_gap_20 : decode cX4_gap 20 = .ok (.getfield 26, 3) := by decide +kernel
theorem dX4_gap_23 : decode cX4_gap 23 = .ok (.iload_n 2, 1) := by decide +kernel
theorem dX4_gap_24 : decode cX4_gap 24 = .ok (.invokevirtual 41, 3) := by decide +kernel
theorem dX4_gap_27 : decode cX4_gap 27 = .ok (.if_icmp .eq 6, 3) := by decide +kernel
theorem dX4_gap_30 : decode cX4_gap 30 = .ok (.iinc 1 1, 3) := by decide +kernel
theorem dX4_gap_33 : decode cX4_gap 33 = .ok (.iinc 2 1, 3) := by decide +kernel
theorem dX4_gap_36 : decode cX4_gap 36 = .ok (.goto (-32), 3) := by decide +kernel
theorem dX4_gap_39 : decode cX4_gap 39 = .ok (.iload_n 1, 1) := by decide +kernel
theorem dX4_gap_40 : decode cX4_gap 40 = .ok (.ireturn, 1) := by decide +kernel
theorem dX4_widened_0 : decode cX4_widened 0 = .ok (.iconst 0, 1) := by decide +kernel
theorem dX4_widened_1 : decode cX4_widened 1 = .ok (.istore_n 2, 1) := by decide +kernel
theorem dX4_widened_2 : decode cX4_widened 2 = .ok (.iconst 0, 1) := by decide +kernel
theorem dX4_widened_3 : decode cX4_widened 3 = .ok (.istore_n 3, 1) := by decide +kernel
theorem dX4_widened_4 : decode cX4_widened 4 = .ok (.iload_n 3, 1) := by decide +kernel
theorem dX4_widened_5 : decode cX4_widened 5 = .ok (.bipush 8, 2) := by decide +kernel
theorem dX4_widened_7 : decode cX4_widened 7 = .ok (.if_icmp .ge 58, 3) := by decide +kernel
theorem dX4_widened_10 : decode cX4_widened 10 = .ok (.iload_n 1, 1) := by decide +kernel
theorem dX4_widened_11 : decode cX4_widened 11 = .ok (.iload_n 3, 1) := by decide +kernel
theorem dX4_widened_12 : decode cX4_widened 12 = .ok (.ishr, 1) := by decide +kernel
theorem dX4_widened_13 : decode cX4_widened 13 = .ok (.iconst 1, 1) := by decide +kernel
theorem dX4_widened_14 : decode cX4_widened 14 = .ok (.iand, 1) := by decide +kernel
theorem dX4_widened_15 : decode cX4_widened 15 = .ok (.iconst 1, 1) := by decide +kernel
theorem dX4_widened_16 : decode cX4_widened 16 = .ok (.if_icmp .ne 43, 3) := by decide +kernel
theorem dX4_widened_19 : decode cX4_widened 19 = .ok (.iload_n 1, 1) := by decide +kernel
theorem dX4_widened_20 : decode cX4_widened 20 = .ok (.iconst 1, 1) := by decide +kernel
theorem dX4_widened_21 : decode cX4_widened 21 = .ok (.iload_n 3, 1) := by decide +kernel
theorem dX4_widened_22 : decode cX4_widened 22 = .ok (.ishl, 1) := by decide +kernel
theorem dX4_widened_23 : decode cX4_widened 23 = .ok (.iconst (-1), 1) := by decide +kernel
theorem dX4_widened_24 : decode cX4_widened 24 = .ok (.ixor, 1) := by decide +kernel
theorem dX4_widened_25 : decode cX4_widened 25 = .ok (.iand, 1) := by decide +kernel
theorem dX4_widened_26 : decode cX4_widened 26 = .ok (.istore 4, 2) := by decide +kernel
theorem dX4_widened_28 : decode cX4_widened 28 = .ok (.iload_n 2, 1) := by decide +kernel
theorem dX4_widened_29 : decode cX4_widened 29 = .ok (.aload_n 0, 1) := by decide +kernel
theorem dX4_widened_30 : decode cX4_widened 30 = .ok (.getfield 12, 3) := by decide +kernel
theorem dX4_widened_33 : decode cX4_widened 33 = .ok (.getfield 45, 3) := by decide +kernel
theorem dX4_widened_36 : decode cX4_widened 36 = .ok (.iload 4, 2) := by decide +kernel
theorem dX4_widened_38 : decode cX4_widened 38 = .ok (.iaload, 1) := by decide +kernel
theorem dX4_widened_39 : decode cX4_widened 39 = .ok (.aload_n 0, 1) := by decide +kernel
theorem dX4_widened_40 : decode cX4_widened 40 = .ok (.getfield 26, 3) := by decide +kernel
theorem dX4_widened_43 : decode cX4_widened 43 = .ok (.getfield 45, 3) := by decide +kernel
theorem dX4_widened_46 : decode cX4_widened 46 = .ok (.iload 4, 2) := by decide +kernel
theorem dX4_widened_48 : decode cX4_widened 48 = .ok (.iaload, 1) := by decide +kernel
theorem dX4_widened_49 : decode cX4_widened 49 = .ok (.if_icmp .ne 7, 3) := by decide +kernel
theorem dX4_widened_52 : decode cX4_widened 52 = .ok (.iconst 1, 1) := by decide +kernel
theorem dX4_widened_53 : decode cX4_widened 53 = .ok (.goto 4, 3) := by decide +kernel
theorem dX4_widened_56 : decode cX4_widened 56 = .ok (.iconst (-1), 1) := by decide +kernel
theorem dX4_widened_57 : decode cX4_widened 57 = .ok (.iadd, 1) := by decide +kernel
theorem dX4_widened_58 : decode cX4_widened 58 = .ok (.istore_n 2, 1) := by decide +kernel
theorem dX4_widened_59 : decode cX4_widened 59 = .ok (.iinc 3 1, 3) := by decide +kernel
theorem dX4_widened_62 : decode cX4_widened 62 = .ok (.goto (-58), 3) := by decide +kernel
theorem dX4_widened_65 : decode cX4_widened 65 = .ok (.iload_n 2, 1) := by decide +kernel
theorem dX4_widened_66 : decode cX4_widened 66 = .ok (.ireturn, 1) := by decide +kernel
theorem dX4_reach_0 : decode cX4_reach 0 = .ok (.iload_n 1, 1) := by decide +kernel
theorem dX4_reach_1 : decode cX4_reach 1 = .ok (.iload_n 2, 1) := by decide +kernel
theorem dX4_reach_2 : decode cX4_reach 2 = .ok (.isub, 1) := by decide +kernel
theorem dX4_reach_3 : decode cX4_reach 3 = .ok (.istore 4, 2) := by decide +kernel
theorem dX4_reach_5 : decode cX4_reach 5 = .ok (.iload 4, 2) := by decide +kernel
theorem dX4_reach_7 : decode cX4_reach 7 = .ok (.ifCond .le 8, 3) := by decide +kernel
theorem dX4_reach_10 : decode cX4_reach 10 = .ok (.iload_n 2, 1) := by decide +kernel
theorem dX4_reach_11 : decode cX4_reach 11 = .ok (.iconst 3, 1) := by decide +kernel
theorem dX4_reach_12 : decode cX4_reach 12 = .ok (.if_icmp .lt 13, 3) := by decide +kernel
theorem dX4_reach_15 : decode cX4_reach 15 = .ok (.iload_n 3, 1) := by decide +kernel
theorem dX4_reach_16 : decode cX4_reach 16 = .ok (.ifCond .ne 7, 3) := by decide +kernel
theorem dX4_reach_19 : decode cX4_reach 19 = .ok (.iconst 1, 1) := by decide +kernel
theorem dX4_reach_20 : decode cX4_reach 20 = .ok (.goto 4, 3) := by decide +kernel
theorem dX4_reach_23 : decode cX4_reach 23 = .ok (.iconst 0, 1) := by decide +kernel
theorem dX4_reach_24 : decode cX4_reach 24 = .ok (.ireturn, 1) := by decide +kernel
theorem dX4_reach_25 : decode cX4_reach 25 = .ok (.iload_n 3, 1) := by decide +kernel
theorem dX4_reach_26 : decode cX4_reach 26 = .ok (.iload 4, 2) := by decide +kernel
theorem dX4_reach_28 : decode cX4_reach 28 = .ok (.aload_n 0, 1) := by decide +kernel
theorem dX4_reach_29 : decode cX4_reach 29 = .ok (.getfield 12, 3) := by decide +kernel
theorem dX4_reach_32 : decode cX4_reach 32 = .ok (.getfield 48, 3) := by decide +kernel
theorem dX4_reach_35 : decode cX4_reach 35 = .ok (.iconst 1, 1) := by decide +kernel
theorem dX4_reach_36 : decode cX4_reach 36 = .ok (.iadd, 1) := by decide +kernel
theorem dX4_reach_37 : decode cX4_reach 37 = .ok (.imul, 1) := by decide +kernel
theorem dX4_reach_38 : decode cX4_reach 38 = .ok (.if_icmp .le 5, 3) := by decide +kernel
theorem dX4_reach_41 : decode cX4_reach 41 = .ok (.iconst 0, 1) := by decide +kernel
theorem dX4_reach_42 : decode cX4_reach 42 = .ok (.ireturn, 1) := by decide +kernel
theorem dX4_reach_43 : decode cX4_reach 43 = .ok (.iconst 0, 1) := by decide +kernel
theorem dX4_reach_44 : decode cX4_reach 44 = .ok (.istore 5, 2) := by decide +kernel
theorem dX4_reach_46 : decode cX4_reach 46 = .ok (.iconst 1, 1) := by decide +kernel
theorem dX4_reach_47 : decode cX4_reach 47 = .ok (.istore 6, 2) := by decide +kernel
theorem dX4_reach_49 : decode cX4_reach 49 = .ok (.iload 6, 2) := by decide +kernel
theorem dX4_reach_51 : decode cX4_reach 51 = .ok (.sipush 256, 3) := by decide +kernel
theorem dX4_reach_54 : decode cX4_reach 54 = .ok (.if_icmp .ge 117, 3) := by decide +kernel
theorem dX4_reach_57 : decode cX4_reach 57 = .ok (.aload_n 0, 1) := by decide +kernel
theorem dX4_reach_58 : decode cX4_reach 58 = .ok (.getfield 12, 3) := by decide +kernel
theorem dX4_reach_61 : decode cX4_reach 61 = .ok (.iload 6, 2) := by decide +kernel
theorem dX4_reach_63 : decode cX4_reach 63 = .ok (.invokevirtual 51, 3) := by decide +kernel
theorem dX4_reach_66 : decode cX4_reach 66 = .ok (.istore 7, 2) := by decide +kernel
theorem dX4_reach_68 : decode cX4_reach 68 = .ok (.iload 7, 2) := by decide +kernel
theorem dX4_reach_70 : decode cX4_reach 70 = .ok (.ifCond .eq 95, 3) := by decide +kernel
theorem dX4_reach_73 : decode cX4_reach 73 = .ok (.iload 6, 2) := by decide +kernel
theorem dX4_reach_75 : decode cX4_reach 75 = .ok (.iload 7, 2) := by decide +kernel
theorem dX4_reach_77 : decode cX4_reach 77 = .ok (.ior, 1) := by decide +kernel
theorem dX4_reach_78 : decode cX4_reach 78 = .ok (.istore 8, 2) := by decide +kernel
theorem dX4_reach_80 : decode cX4_reach 80 = .ok (.iload_n 3, 1) := by decide +kernel
theorem dX4_reach_81 : decode cX4_reach 81 = .ok (.aload_n 0, 1) := by decide +kernel
theorem dX4_reach_82 : decode cX4_reach 82 = .ok (.iload 8, 2) := by decide +kernel
theorem dX4_reach_84 : decode cX4_reach 84 = .ok (.invokevirtual 55, 3) := by decide +kernel
theorem dX4_reach_87 : decode cX4_reach 87 = .ok (.iadd, 1) := by decide +kernel
theorem dX4_reach_88 : decode cX4_reach 88 = .ok (.istore 9, 2) := by decide +kernel
theorem dX4_reach_90 : decode cX4_reach 90 = .ok (.iload 7, 2) := by decide +kernel
theorem dX4_reach_92 : decode cX4_reach 92 = .ok (.invokestatic 58, 3) := by decide +kernel
theorem dX4_reach_95 : decode cX4_reach 95 = .ok (.aload_n 0, 1) := by decide +kernel
theorem dX4_reach_96 : decode cX4_reach 96 = .ok (.getfield 29, 3) := by decide +kernel
theorem dX4_reach_99 : decode cX4_reach 99 = .ok (.if_icmp .lt 63, 3) := by decide +kernel
theorem dX4_reach_102 : decode cX4_reach 102 = .ok (.iload 9, 2) := by decide +kernel
theorem dX4_reach_104 : decode cX4_reach 104 = .ok (.iload 4, 2) := by decide +kernel
theorem dX4_reach_106 : decode cX4_reach 106 = .ok (.iconst 1, 1) := by decide +kernel
theorem dX4_reach_107 : decode cX4_reach 107 = .ok (.isub, 1) := by decide +kernel
theorem dX4_reach_108 : decode cX4_reach 108 = .ok (.aload_n 0, 1) := by decide +kernel
theorem dX4_reach_109 : decode cX4_reach 109 = .ok (.getfield 12, 3) := by decide +kernel
theorem dX4_reach_112 : decode cX4_reach 112 = .ok (.getfield 48, 3) := by decide +kernel
theorem dX4_reach_115 : decode cX4_reach 115 = .ok (.iconst 1, 1) := by decide +kernel
theorem dX4_reach_116 : decode cX4_reach 116 = .ok (.iadd, 1) := by decide +kernel
theorem dX4_reach_117 : decode cX4_reach 117 = .ok (.imul, 1) := by decide +kernel
theorem dX4_reach_118 : decode cX4_reach 118 = .ok (.if_icmp .gt 44, 3) := by decide +kernel
theorem dX4_reach_121 : decode cX4_reach 121 = .ok (.aload_n 0, 1) := by decide +kernel
theorem dX4_reach_122 : decode cX4_reach 122 = .ok (.getfield 18, 3) := by decide +kernel
theorem dX4_reach_125 : decode cX4_reach 125 = .ok (.iload_n 2, 1) := by decide +kernel
theorem dX4_reach_126 : decode cX4_reach 126 = .ok (.iload 5, 2) := by decide +kernel
theorem dX4_reach_128 : decode cX4_reach 128 = .ok (.iastore, 1) := by decide +kernel
theorem dX4_reach_129 : decode cX4_reach 129 = .ok (.aload_n 0, 1) := by decide +kernel
theorem dX4_reach_130 : decode cX4_reach 130 = .ok (.getfield 12, 3) := by decide +kernel
theorem dX4_reach_133 : decode cX4_reach 133 = .ok (.iload 8, 2) := by decide +kernel
theorem dX4_reach_135 : decode cX4_reach 135 = .ok (.invokevirtual 63, 3) := by decide +kernel
theorem dX4_reach_138 : decode cX4_reach 138 = .ok (.aload_n 0, 1) := by decide +kernel
theorem dX4_reach_139 : decode cX4_reach 139 = .ok (.iload_n 1, 1) := by decide +kernel
theorem dX4_reach_140 : decode cX4_reach 140 = .ok (.iload_n 2, 1) := by decide +kernel
theorem dX4_reach_141 : decode cX4_reach 141 = .ok (.iconst 1, 1) := by decide +kernel
theorem dX4_reach_142 : decode cX4_reach 142 = .ok (.iadd, 1) := by decide +kernel
theorem dX4_reach_143 : decode cX4_reach 143 = .ok (.iload 9, 2) := by decide +kernel
theorem dX4_reach_145 : decode cX4_reach 145 = .ok (.invokestatic 37, 3) := by decide +kernel
theorem dX4_reach_148 : decode cX4_reach 148 = .ok (.ifCond .eq 5, 3) := by decide +kernel
theorem dX4_reach_151 : decode cX4_reach 151 = .ok (.iconst 1, 1) := by decide +kernel
theorem dX4_reach_152 : decode cX4_reach 152 = .ok (.ireturn, 1) := by decide +kernel
theorem dX4_reach_153 : decode cX4_reach 153 = .ok (.aload_n 0, 1) := by decide +kernel
theorem dX4_reach_154 : decode cX4_reach 154 = .ok (.getfield 12, 3) := by decide +kernel
theorem dX4_reach_157 : decode cX4_reach 157 = .ok (.iload 8, 2) := by decide +kernel
theorem dX4_reach_159 : decode cX4_reach 159 = .ok (.invokevirtual 63, 3) := by decide +kernel
theorem dX4_reach_162 : decode cX4_reach 162 = .ok (.iinc 5 1, 3) := by decide +kernel
theorem dX4_reach_165 : decode cX4_reach 165 = .ok (.iinc 6 1, 3) := by decide +kernel
theorem dX4_reach_168 : decode cX4_reach 168 = .ok (.goto (-119), 3) := by decide +kernel
theorem dX4_reach_171 : decode cX4_reach 171 = .ok (.iconst 0, 1) := by decide +kernel
theorem dX4_reach_172 : decode cX4_reach 172 = .ok (.ireturn, 1) := by decide +kernel
theorem dX5_init_0 : decode cX5_init 0 = .ok (.aload_n 0, 1) := by decide +kernel
theorem dX5_init_1 : decode cX5_init 1 = .ok (.invokespecial 3, 3) := by decide +kernel
theorem dX5_init_4 : decode cX5_init 4 = .ok (.aload_n 0, 1) := by decide +kernel
theorem dX5_init_5 : decode cX5_init 5 = .ok (.iconst 4, 1) := by decide +kernel
theorem dX5_init_6 : decode cX5_init 6 = .ok (.anewarray 9, 3) := by decide +kernel
theorem dX5_init_9 : decode cX5_init 9 = .ok (.putfield 11, 3) := by decide +kernel
theorem dX5_init_12 : decode cX5_init 12 = .ok (.iconst 0, 1) := by decide +kernel
theorem dX5_init_13 : decode cX5_init 13 = .ok (.istore_n 1, 1) := by decide +kernel
theorem dX5_init_14 : decode cX5_init 14 = .ok (.iload_n 1, 1) := by decide +kernel
theorem dX5_init_15 : decode cX5_init 15 = .ok (.iconst 4, 1) := by decide +kernel
theorem dX5_init_16 : decode cX5_init 16 = .ok (.if_icmp .ge 22, 3) := by decide +kernel
theorem dX5_init_19 : decode cX5_init 19 = .ok (.aload_n 0, 1) := by decide +kernel
theorem dX5_init_20 : decode cX5_init 20 = .ok (.getfield 11, 3) := by decide +kernel
theorem dX5_init_23 : decode cX5_init 23 = .ok (.iload_n 1, 1) := by decide +kernel
theorem dX5_init_24 : decode cX5_init 24 = .ok (.new 9, 3) := by decide +kernel
theorem dX5_init_27 : decode cX5_init 27 = .ok (.dup, 1) := by decide +kernel
theorem dX5_init_28 : decode cX5_init 28 = .ok (.invokespecial 17, 3) := by decide +kernel
theorem dX5_init_31 : decode cX5_init 31 = .ok (.aastore, 1) := by decide +kernel
theorem dX5_init_32 : decode cX5_init 32 = .ok (.iinc 1 1, 3) := by decide +kernel
theorem dX5_init_35 : decode cX5_init 35 = .ok (.goto (-21), 3) := by decide +kernel
theorem dX5_init_38 : decode cX5_init 38 = .ok (.return_, 1) := by decide +kernel
theorem dX5_add_0 : decode cX5_add 0 = .ok (.aload_n 0, 1) := by decide +kernel
theorem dX5_add_1 : decode cX5_add 1 = .ok (.getfield 18, 3) := by decide +kernel
theorem dX5_add_4 : decode cX5_add 4 = .ok (.iconst 4, 1) := by decide +kernel
theorem dX5_add_5 : decode cX5_add 5 = .ok (.if_icmp .lt 5, 3) := by decide +kernel
theorem dX5_add_8 : decode cX5_add 8 = .ok (.iconst 0, 1) := by decide +kernel
theorem dX5_add_9 : decode cX5_add 9 = .ok (.ireturn, 1) := by decide +kernel
theorem dX5_add_10 : decode cX5_add 10 = .ok (.aload_n 0, 1) := by decide +kernel
theorem dX5_add_11 : decode cX5_add 11 = .ok (.getfield 11, 3) := by decide +kernel
theorem dX5_add_14 : decode cX5_add 14 = .ok (.aload_n 0, 1) := by decide +kernel
theorem dX5_add_15 : decode cX5_add 15 = .ok (.getfield 18, 3) := by decide +kernel
theorem dX5_add_18 : decode cX5_add 18 = .ok (.aaload, 1) := by decide +kernel
theorem dX5_add_19 : decode cX5_add 19 = .ok (.aload_n 1, 1) := by decide +kernel
theorem dX5_add_20 : decode cX5_add 20 = .ok (.invokevirtual 22, 3) := by decide +kernel
theorem dX5_add_23 : decode cX5_add 23 = .ok (.aload_n 0, 1) := by decide +kernel
theorem dX5_add_24 : decode cX5_add 24 = .ok (.dup, 1) := by decide +kernel
theorem dX5_add_25 : decode cX5_add 25 = .ok (.getfield 18, 3) := by decide +kernel
theorem dX5_add_28 : decode cX5_add 28 = .ok (.iconst 1, 1) := by decide +kernel
theorem dX5_add_29 : decode cX5_add 29 = .ok (.iadd, 1) := by decide +kernel
theorem dX5_add_30 : decode cX5_add 30 = .ok (.putfield 18, 3) := by decide +kernel
theorem dX5_add_33 : decode cX5_add 33 = .ok (.iconst 1, 1) := by decide +kernel
theorem dX5_add_34 : decode cX5_add 34 = .ok (.ireturn, 1) := by decide +kernel
theorem dX5_at_0 : decode cX5_at 0 = .ok (.iload_n 1, 1) := by decide +kernel
theorem dX5_at_1 : decode cX5_at 1 = .ok (.ifCond .lt 20, 3) := by decide +kernel
theorem dX5_at_4 : decode cX5_at 4 = .ok (.iload_n 1, 1) := by decide +kernel
theorem dX5_at_5 : decode cX5_at 5 = .ok (.aload_n 0, 1) := by decide +kernel
theorem dX5_at_6 : decode cX5_at 6 = .ok (.getfield 18, 3) := by decide +kernel
theorem dX5_at_9 : decode cX5_at 9 = .ok (.if_icmp .ge 12, 3) := by decide +kernel
theorem dX5_at_12 : decode cX5_at 12 = .ok (.aload_n 0, 1) := by decide +kernel
theorem dX5_at_13 : decode cX5_at 13 = .ok (.getfield 11, 3) := by decide +kernel
theorem dX5_at_16 : decode cX5_at 16 = .ok (.iload_n 1, 1) := by decide +kernel
theorem dX5_at_17 : decode cX5_at 17 = .ok (.aaload, 1) := by decide +kernel
theorem dX5_at_18 : decode cX5_at 18 = .ok (.goto 4, 3) := by decide +kernel
theorem dX5_at_21 : decode cX5_at 21 = .ok (.aconst_null, 1) := by decide +kernel
theorem dX5_at_22 : decode cX5_at 22 = .ok (.areturn, 1) := by decide +kernel
theorem dX6_init_0 : decode cX6_init 0 = .ok (.aload_n 0, 1) := by decide +kernel
theorem dX6_init_1 : decode cX6_init 1 = .ok (.invokespecial 3, 3) := by decide +kernel
theorem dX6_init_4 : decode cX6_init 4 = .ok (.aload_n 0, 1) := by decide +kernel
theorem dX6_init_5 : decode cX6_init 5 = .ok (.bipush 120, 2) := by decide +kernel
theorem dX6_init_7 : decode cX6_init 7 = .ok (.newarray .byte, 2) := by decide +kernel
theorem dX6_init_9 : decode cX6_init 9 = .ok (.putfield 9, 3) := by decide +kernel
theorem dX6_init_12 : decode cX6_init 12 = .ok (.aload_n 0, 1) := by decide +kernel
theorem dX6_init_13 : decode cX6_init 13 = .ok (.bipush 12, 2) := by decide +kernel
theorem dX6_init_15 : decode cX6_init 15 = .ok (.newarray .int, 2) := by decide +kernel
theorem dX6_init_17 : decode cX6_init 17 = .ok (.putfield 15, 3) := by decide +kernel
theorem dX6_init_20 : decode cX6_init 20 = .ok (.aload_n 0, 1) := by decide +kernel
theorem dX6_init_21 : decode cX6_init 21 = .ok (.bipush 12, 2) := by decide +kernel
theorem dX6_init_23 : decode cX6_init 23 = .ok (.newarray .int, 2) := by decide +kernel
theorem dX6_init_25 : decode cX6_init 25 = .ok (.putfield 19, 3) := by decide +kernel
theorem dX6_init_28 : decode cX6_init 28 = .ok (.aload_n 0, 1) := by decide +kernel
theorem dX6_init_29 : decode cX6_init 29 = .ok (.bipush 12, 2) := by decide +kernel
theorem dX6_init_31 : decode cX6_init 31 = .ok (.newarray .int, 2) := by decide +kernel
theorem dX6_init_33 : decode cX6_init 33 = .ok (.putfield 22, 3) := by decide +kernel
theorem dX6_init_36 : decode cX6_init 36 = .ok (.return_, 1) := by decide +kernel
theorem dX6_add_0 : decode cX6_add 0 = .ok (.aload_n 0, 1) := by decide +kernel
theorem dX6_add_1 : decode cX6_add 1 = .ok (.getfield 25, 3) := by decide +kernel
theorem dX6_add_4 : decode cX6_add 4 = .ok (.bipush 120, 2) := by decide +kernel
theorem dX6_add_6 : decode cX6_add 6 = .ok (.if_icmp .lt 5, 3) := by decide +kernel
theorem dX6_add_9 : decode cX6_add 9 = .ok (.iconst 0, 1) := by decide +kernel
theorem dX6_add_10 : decode cX6_add 10 = .ok (.ireturn, 1) := by decide +kernel
theorem dX6_add_11 : decode cX6_add 11 = .ok (.aload_n 0, 1) := by decide +kernel
theorem dX6_add_12 : decode cX6_add 12 = .ok (.getfield 9, 3) := by decide +kernel
theorem dX6_add_15 : decode cX6_add 15 = .ok (.aload_n 0, 1) := by decide +kernel
theorem dX6_add_16 : decode cX6_add 16 = .ok (.getfield 25, 3) := by decide +kernel
theorem dX6_add_19 : decode cX6_add 19 = .ok (.iload_n 1, 1) := by decide +kernel
theorem dX6_add_20 : decode cX6_add 20 = .ok (.i2b, 1) := by decide +kernel
theorem dX6_add_21 : decode cX6_add 21 = .ok (.bastore, 1) := by decide +kernel
theorem dX6_add_22 : decode cX6_add 22 = .ok (.aload_n 0, 1) := by decide +kernel
theorem dX6_add_23 : decode cX6_add 23 = .ok (.dup, 1) := by decide +kernel
theorem dX6_add_24 : decode cX6_add 24 = .ok (.getfield 25, 3) := by decide +kernel
theorem dX6_add_27 : decode cX6_add 27 = .ok (.iconst 1, 1) := by decide +kernel
theorem dX6_add_28 : decode cX6_add 28 = .ok (.iadd, 1) := by decide +kernel
theorem dX6_add_29 : decode cX6_add 29 = .ok (.putfield 25, 3) := by decide +kernel
theorem dX6_add_32 : decode cX6_add 32 = .ok (.iconst 1, 1) := by decide +kernel
theorem dX6_add_33 : decode cX6_add 33 = .ok (.ireturn, 1) := by decide +kernel
theorem dX6_split_0 : decode cX6_split 0 = .ok (.aload_n 0, 1) := by decide +kernel
theorem dX6_split_1 : decode cX6_split 1 = .ok (.iconst 0, 1) := by decide +kernel
theorem dX6_split_2 : decode cX6_split 2 = .ok (.putfield 29, 3) := by decide +kernel
theorem dX6_split_5 : decode cX6_split 5 = .ok (.iconst 0, 1) := by decide +kernel
theorem dX6_split_6 : decode cX6_split 6 = .ok (.istore_n 1, 1) := by decide +kernel
theorem dX6_split_7 : decode cX6_split 7 = .ok (.iconst 0, 1) := by decide +kernel
theorem dX6_split_8 : decode cX6_split 8 = .ok (.istore_n 2, 1) := by decide +kernel
theorem dX6_split_9 : decode cX6_split 9 = .ok (.iload_n 2, 1) := by decide +kernel
theorem dX6_split_10 : decode cX6_split 10 = .ok (.bipush 12, 2) := by decide +kernel
theorem dX6_split_12 : decode cX6_split 12 = .ok (.if_icmp .ge 136, 3) := by decide +kernel
theorem dX6_split_15 : decode cX6_split 15 = .ok (.aload_n 0, 1) := by decide +kernel
theorem dX6_split_16 : decode cX6_split 16 = .ok (.iload_n 1, 1) := by decide +kernel
theorem dX6_split_17 : decode cX6_split 17 = .ok (.bipush 97, 2) := by decide +kernel
theorem dX6_split_19 : decode cX6_split 19 = .ok (.bipush 122, 2) := by decide +kernel
theorem dX6_split_21 : decode cX6_split 21 = .ok (.invokevirtual 32, 3) := by decide +kernel
theorem dX6_split_24 : decode cX6_split 24 = .ok (.istore_n 3, 1) := by decide +kernel
theorem dX6_split_25 : decode cX6_split 25 = .ok (.aload_n 0, 1) := by decide +kernel
theorem dX6_split_26 : decode cX6_split 26 = .ok (.iload_n 3, 1) := by decide +kernel
theorem dX6_split_27 : decode cX6_split 27 = .ok (.bipush 48, 2) := by decide +kernel
theorem dX6_split_29 : decode cX6_split 29 = .ok (.bipush 57, 2) := by decide +kernel
theorem dX6_split_31 : decode cX6_split 31 = .ok (.invokevirtual 32, 3) := by decide +kernel
theorem dX6_split_34 : decode cX6_split 34 = .ok (.istore 4, 2) := by decide +kernel
theorem dX6_split_36 : decode cX6_split 36 = .ok (.aload_n 0, 1) := by decide +kernel
theorem dX6_split_37 : decode cX6_split 37 = .ok (.iload_n 1, 1) := by decide +kernel
theorem dX6_split_38 : decode cX6_split 38 = .ok (.iload_n 3, 1) := by decide +kernel
theorem dX6_split_39 : decode cX6_split 39 = .ok (.invokevirtual 36, 3) := by decide +kernel
theorem dX6_split_42 : decode cX6_split 42 = .ok (.istore 5, 2) := by decide +kernel
theorem dX6_split_44 : decode cX6_split 44 = .ok (.iload 5, 2) := by decide +kernel
theorem dX6_split_46 : decode cX6_split 46 = .ok (.ifCond .lt 29, 3) := by decide +kernel
theorem dX6_split_49 : decode cX6_split 49 = .ok (.iload 4, 2) := by decide +kernel
theorem dX6_split_51 : decode cX6_split 51 = .ok (.iload_n 3, 1) := by decide +kernel
theorem dX6_split_52 : decode cX6_split 52 = .ok (.isub, 1) := by decide +kernel
theorem dX6_split_53 : decode cX6_split 53 = .ok (.getstatic 40, 3) := by decide +kernel
theorem dX6_split_56 : decode cX6_split 56 = .ok (.iload 5, 2) := by decide +kernel
theorem dX6_split_58 : decode cX6_split 58 = .ok (.iaload, 1) := by decide +kernel
theorem dX6_split_59 : decode cX6_split 59 = .ok (.if_icmp .lt 16, 3) := by decide +kernel
theorem dX6_split_62 : decode cX6_split 62 = .ok (.iload 4, 2) := by decide +kernel
theorem dX6_split_64 : decode cX6_split 64 = .ok (.iload_n 3, 1) := by decide +kernel
theorem dX6_split_65 : decode cX6_split 65 = .ok (.isub, 1) := by decide +kernel
theorem dX6_split_66 : decode cX6_split 66 = .ok (.getstatic 43, 3) := by decide +kernel
theorem dX6_split_69 : decode cX6_split 69 = .ok (.iload 5, 2) := by decide +kernel
theorem dX6_split_71 : decode cX6_split 71 = .ok (.iaload, 1) := by decide +kernel
theorem dX6_split_72 : decode cX6_split 72 = .ok (.if_icmp .le 5, 3) := by decide +kernel
theorem dX6_split_75 : decode cX6_split 75 = .ok (.iload_n 1, 1) := by decide +kernel
theorem dX6_split_76 : decode cX6_split 76 = .ok (.ireturn, 1) := by decide +kernel
theorem dX6_split_77 : decode cX6_split 77 = .ok (.aload_n 0, 1) := by decide +kernel
theorem dX6_split_78 : decode cX6_split 78 = .ok (.getfield 15, 3) := by decide +kernel
theorem dX6_split_81 : decode cX6_split 81 = .ok (.iload_n 2, 1) := by decide +kernel
theorem dX6_split_82 : decode cX6_split 82 = .ok (.iload 5, 2) := by decide +kernel
theorem dX6_split_84 : decode cX6_split 84 = .ok (.iastore, 1) := by decide +kernel
theorem dX6_split_85 : decode cX6_split 85 = .ok (.aload_n 0, 1) := by decide +kernel
theorem dX6_split_86 : decode cX6_split 86 = .ok (.getfield 19, 3) := by decide +kernel
theorem dX6_split_89 : decode cX6_split 89 = .ok (.iload_n 2, 1) := by decide +kernel
theorem dX6_split_90 : decode cX6_split 90 = .ok (.iload_n 3, 1) := by decide +kernel
theorem dX6_split_91 : decode cX6_split 91 = .ok (.iastore, 1) := by decide +kernel
theorem dX6_split_92 : decode cX6_split 92 = .ok (.aload_n 0, 1) := by decide +kernel
theorem dX6_split_93 : decode cX6_split 93 = .ok (.getfield 22, 3) := by decide +kernel
theorem dX6_split_96 : decode cX6_split 96 = .ok (.iload_n 2, 1) := by decide +kernel
theorem dX6_split_97 : decode cX6_split 97 = .ok (.iload 4, 2) := by decide +kernel
theorem dX6_split_99 : decode cX6_split 99 = .ok (.iastore, 1) := by decide +kernel
theorem dX6_split_100 : decode cX6_split 100 = .ok (.aload_n 0, 1) := by decide +kernel
theorem dX6_split_101 : decode cX6_split 101 = .ok (.dup, 1) := by decide +kernel
theorem dX6_split_102 : decode cX6_split 102 = .ok (.getfield 29, 3) := by decide +kernel
theorem dX6_split_105 : decode cX6_split 105 = .ok (.iconst 1, 1) := by decide +kernel
theorem dX6_split_106 : decode cX6_split 106 = .ok (.iadd, 1) := by decide +kernel
theorem dX6_split_107 : decode cX6_split 107 = .ok (.putfield 29, 3) := by decide +kernel
theorem dX6_split_110 : decode cX6_split 110 = .ok (.iload 4, 2) := by decide +kernel
theorem dX6_split_112 : decode cX6_split 112 = .ok (.aload_n 0, 1) := by decide +kernel
theorem dX6_split_113 : decode cX6_split 113 = .ok (.getfield 25, 3) := by decide +kernel
theorem dX6_split_116 : decode cX6_split 116 = .ok (.if_icmp .lt 6, 3) := by decide +kernel
theorem dX6_split_119 : decode cX6_split 119 = .ok (.bipush (-5), 2) := by decide +kernel
theorem dX6_split_121 : decode cX6_split 121 = .ok (.ireturn, 1) := by decide +kernel
theorem dX6_split_122 : decode cX6_split 122 = .ok (.aload_n 0, 1) := by decide +kernel
theorem dX6_split_123 : decode cX6_split 123 = .ok (.getfield 9, 3) := by decide +kernel
theorem dX6_split_126 : decode cX6_split 126 = .ok (.iload 4, 2) := by decide +kernel
theorem dX6_split_128 : decode cX6_split 128 = .ok (.baload, 1) := by decide +kernel
theorem dX6_split_129 : decode cX6_split 129 = .ok (.bipush 32, 2) := by decide +kernel
theorem dX6_split_131 : decode cX6_split 131 = .ok (.if_icmp .eq 6, 3) := by decide +kernel
theorem dX6_split_134 : decode cX6_split 134 = .ok (.iload 4, 2) := by decide +kernel
theorem dX6_split_136 : decode cX6_split 136 = .ok (.ireturn, 1) := by decide +kernel
theorem dX6_split_137 : decode cX6_split 137 = .ok (.iload 4, 2) := by decide +kernel
theorem dX6_split_139 : decode cX6_split 139 = .ok (.iconst 1, 1) := by decide +kernel
theorem dX6_split_140 : decode cX6_split 140 = .ok (.iadd, 1) := by decide +kernel
theorem dX6_split_141 : decode cX6_split 141 = .ok (.istore_n 1, 1) := by decide +kernel
theorem dX6_split_142 : decode cX6_split 142 = .ok (.iinc 2 1, 3) := by decide +kernel
theorem dX6_split_145 : decode cX6_split 145 = .ok (.goto (-136), 3) := by decide +kernel
theorem dX6_split_148 : decode cX6_split 148 = .ok (.iload_n 1, 1) := by decide +kernel
theorem dX6_split_149 : decode cX6_split 149 = .ok (.iconst 1, 1) := by decide +kernel
theorem dX6_split_150 : decode cX6_split 150 = .ok (.isub, 1) := by decide +kernel
theorem dX6_split_151 : decode cX6_split 151 = .ok (.ireturn, 1) := by decide +kernel
theorem dX6_behind_0 : decode cX6_behind 0 = .ok (.iload_n 1, 1) := by decide +kernel
theorem dX6_behind_1 : decode cX6_behind 1 = .ok (.istore 4, 2) := by decide +kernel
theorem dX6_behind_3 : decode cX6_behind 3 = .ok (.iload 4, 2) := by decide +kernel
theorem dX6_behind_5 : decode cX6_behind 5 = .ok (.aload_n 0, 1) := by decide +kernel
theorem dX6_behind_6 : decode cX6_behind 6 = .ok (.getfield 25, 3) := by decide +kernel
theorem dX6_behind_9 : decode cX6_behind 9 = .ok (.if_icmp .ge 34, 3) := by decide +kernel
theorem dX6_behind_12 : decode cX6_behind 12 = .ok (.aload_n 0, 1) := by decide +kernel
theorem dX6_behind_13 : decode cX6_behind 13 = .ok (.getfield 9, 3) := by decide +kernel
theorem dX6_behind_16 : decode cX6_behind 16 = .ok (.iload 4, 2) := by decide +kernel
theorem dX6_behind_18 : decode cX6_behind 18 = .ok (.baload, 1) := by decide +kernel
theorem dX6_behind_19 : decode cX6_behind 19 = .ok (.iload_n 2, 1) := by decide +kernel
theorem dX6_behind_20 : decode cX6_behind 20 = .ok (.if_icmp .lt 14, 3) := by decide +kernel
theorem dX6_behind_23 : decode cX6_behind 23 = .ok (.aload_n 0, 1) := by decide +kernel
theorem dX6_behind_24 : decode cX6_behind 24 = .ok (.getfield 9, 3) := by decide +kernel
theorem dX6_behind_27 : decode cX6_behind 27 = .ok (.iload 4, 2) := by decide +kernel
theorem dX6_behind_29 : decode cX6_behind 29 = .ok (.baload, 1) := by decide +kernel
theorem dX6_behind_30 : decode cX6_behind 30 = .ok (.iload_n 3, 1) := by decide +kernel
theorem dX6_behind_31 : decode cX6_behind 31 = .ok (.if_icmp .le 6, 3) := by decide +kernel
theorem dX6_behind_34 : decode cX6_behind 34 = .ok (.iload 4, 2) := by decide +kernel
theorem dX6_behind_36 : decode cX6_behind 36 = .ok (.ireturn, 1) := by decide +kernel
theorem dX6_behind_37 : decode cX6_behind 37 = .ok (.iinc 4 1, 3) := by decide +kernel
theorem dX6_behind_40 : decode cX6_behind 40 = .ok (.goto (-37), 3) := by decide +kernel
theorem dX6_behind_43 : decode cX6_behind 43 = .ok (.aload_n 0, 1) := by decide +kernel
theorem dX6_behind_44 : decode cX6_behind 44 = .ok (.getfield 25, 3) := by decide +kernel
theorem dX6_behind_47 : decode cX6_behind 47 = .ok (.ireturn, 1) := by decide +kernel
theorem dX6_wordAt_0 : decode cX6_wordAt 0 = .ok (.iconst 0, 1) := by decide +kernel
theorem dX6_wordAt_1 : decode cX6_wordAt 1 = .ok (.istore_n 3, 1) := by decide +kernel
theorem dX6_wordAt_2 : decode cX6_wordAt 2 = .ok (.iload_n 3, 1) := by decide +kernel
theorem dX6_wordAt_3 : decode cX6_wordAt 3 = .ok (.bipush 12, 2) := by decide +kernel
theorem dX6_wordAt_5 : decode cX6_wordAt 5 = .ok (.if_icmp .ge 24, 3) := by decide +kernel
theorem dX6_wordAt_8 : decode cX6_wordAt 8 = .ok (.aload_n 0, 1) := by decide +kernel
theorem dX6_wordAt_9 : decode cX6_wordAt 9 = .ok (.iload_n 3, 1) := by decide +kernel
theorem dX6_wordAt_10 : decode cX6_wordAt 10 = .ok (.invokestatic 46, 3) := by decide +kernel
theorem dX6_wordAt_13 : decode cX6_wordAt 13 = .ok (.iload_n 1, 1) := by decide +kernel
theorem dX6_wordAt_14 : decode cX6_wordAt 14 = .ok (.iload_n 2, 1) := by decide +kernel
theorem dX6_wordAt_15 : decode cX6_wordAt 15 = .ok (.invokevirtual 50, 3) := by decide +kernel
theorem dX6_wordAt_18 : decode cX6_wordAt 18 = .ok (.ifCond .eq 5, 3) := by decide +kernel
theorem dX6_wordAt_21 : decode cX6_wordAt 21 = .ok (.iload_n 3, 1) := by decide +kernel
theorem dX6_wordAt_22 : decode cX6_wordAt 22 = .ok (.ireturn, 1) := by decide +kernel
theorem dX6_wordAt_23 : decode cX6_wordAt 23 = .ok (.iinc 3 1, 3) := by decide +kernel
theorem dX6_wordAt_26 : decode cX6_wordAt 26 = .ok (.goto (-24), 3) := by decide +kernel
theorem dX6_wordAt_29 : decode cX6_wordAt 29 = .ok (.iconst (-1), 1) := by decide +kernel
theorem dX6_wordAt_30 : decode cX6_wordAt 30 = .ok (.ireturn, 1) := by decide +kernel
theorem dX6_stands_0 : decode cX6_stands 0 = .ok (.aload_n 1, 1) := by decide +kernel
theorem dX6_stands_1 : decode cX6_stands 1 = .ok (.invokevirtual 54, 3) := by decide +kernel
theorem dX6_stands_4 : decode cX6_stands 4 = .ok (.iload_n 3, 1) := by decide +kernel
theorem dX6_stands_5 : decode cX6_stands 5 = .ok (.iload_n 2, 1) := by decide +kernel
theorem dX6_stands_6 : decode cX6_stands 6 = .ok (.isub, 1) := by decide +kernel
theorem dX6_stands_7 : decode cX6_stands 7 = .ok (.if_icmp .eq 5, 3) := by decide +kernel
theorem dX6_stands_10 : decode cX6_stands 10 = .ok (.iconst 0, 1) := by decide +kernel
theorem dX6_stands_11 : decode cX6_stands 11 = .ok (.ireturn, 1) := by decide +kernel
theorem dX6_stands_12 : decode cX6_stands 12 = .ok (.iconst 0, 1) := by decide +kernel
theorem dX6_stands_13 : decode cX6_stands 13 = .ok (.istore 4, 2) := by decide +kernel
theorem dX6_stands_15 : decode cX6_stands 15 = .ok (.iload 4, 2) := by decide +kernel
theorem dX6_stands_17 : decode cX6_stands 17 = .ok (.aload_n 1, 1) := by decide +kernel
theorem dX6_stands_18 : decode cX6_stands 18 = .ok (.invokevirtual 54, 3) := by decide +kernel
theorem dX6_stands_21 : decode cX6_stands 21 = .ok (.if_icmp .ge 29, 3) := by decide +kernel
theorem dX6_stands_24 : decode cX6_stands 24 = .ok (.aload_n 0, 1) := by decide +kernel
theorem dX6_stands_25 : decode cX6_stands 25 = .ok (.getfield 9, 3) := by decide +kernel
theorem dX6_stands_28 : decode cX6_stands 28 = .ok (.iload_n 2, 1) := by decide +kernel
theorem dX6_stands_29 : decode cX6_stands 29 = .ok (.iload 4, 2) := by decide +kernel
theorem dX6_stands_31 : decode cX6_stands 31 = .ok (.iadd, 1) := by decide +kernel
theorem dX6_stands_32 : decode cX6_stands 32 = .ok (.baload, 1) := by decide +kernel
theorem dX6_stands_33 : decode cX6_stands 33 = .ok (.aload_n 1, 1) := by decide +kernel
theorem dX6_stands_34 : decode cX6_stands 34 = .ok (.iload 4, 2) := by decide +kernel
theorem dX6_stands_36 : decode cX6_stands 36 = .ok (.invokevirtual 60, 3) := by decide +kernel
theorem dX6_stands_39 : decode cX6_stands 39 = .ok (.if_icmp .eq 5, 3) := by decide +kernel
theorem dX6_stands_42 : decode cX6_stands 42 = .ok (.iconst 0, 1) := by decide +kernel
theorem dX6_stands_43 : decode cX6_stands 43 = .ok (.ireturn, 1) := by decide +kernel
theorem dX6_stands_44 : decode cX6_stands 44 = .ok (.iinc 4 1, 3) := by decide +kernel
theorem dX6_stands_47 : decode cX6_stands 47 = .ok (.goto (-32), 3) := by decide +kernel
theorem dX6_stands_50 : decode cX6_stands 50 = .ok (.iconst 1, 1) := by decide +kernel
theorem dX6_stands_51 : decode cX6_stands 51 = .ok (.ireturn, 1) := by decide +kernel
theorem dX6_wordOf_0 : decode cX6_wordOf 0 = .ok (.iload_n 0, 1) := by decide +kernel
theorem dX6_wordOf_1 : decode cX6_wordOf 1 = .ok (.tableswitch 92 0 10 #[59, 62, 65, 68, 71, 74, 77, 80, 83, 86, 89], 59) := by decide +kernel
theorem dX6_wordOf_60 : decode cX6_wordOf 60 = .ok (.ldc 64, 2) := by decide +kernel
theorem dX6_wordOf_62 : decode cX6_wordOf 62 = .ok (.areturn, 1) := by decide +kernel
theorem dX6_wordOf_63 : decode cX6_wordOf 63 = .ok (.ldc 66, 2) := by decide +kernel
theorem dX6_wordOf_65 : decode cX6_wordOf 65 = .ok (.areturn, 1) := by decide +kernel
theorem dX6_wordOf_66 : decode cX6_wordOf 66 = .ok (.ldc 68, 2) := by decide +kernel
theorem dX6_wordOf_68 : decode cX6_wordOf 68 = .ok (.areturn, 1) := by decide +kernel
theorem dX6_wordOf_69 : decode cX6_wordOf 69 = .ok (.ldc 70, 2) := by decide +kernel
theorem dX6_wordOf_71 : decode cX6_wordOf 71 = .ok (.areturn, 1) := by decide +kernel
theorem dX6_wordOf_72 : decode cX6_wordOf 72 = .ok (.ldc 72, 2) := by decide +kernel
theorem dX6_wordOf_74 : decode cX6_wordOf 74 = .ok (.areturn, 1) := by decide +kernel
theorem dX6_wordOf_75 : decode cX6_wordOf 75 = .ok (.ldc 74, 2) := by decide +kernel
theorem dX6_wordOf_77 : decode cX6_wordOf 77 = .ok (.areturn, 1) := by decide +kernel
theorem dX6_wordOf_78 : decode cX6_wordOf 78 = .ok (.ldc 76, 2) := by decide +kernel
theorem dX6_wordOf_80 : decode cX6_wordOf 80 = .ok (.areturn, 1) := by decide +kernel
theorem dX6_wordOf_81 : decode cX6_wordOf 81 = .ok (.ldc 78, 2) := by decide +kernel
theorem dX6_wordOf_83 : decode cX6_wordOf 83 = .ok (.areturn, 1) := by decide +kernel
theorem dX6_wordOf_84 : decode cX6_wordOf 84 = .ok (.ldc 80, 2) := by decide +kernel
theorem dX6_wordOf_86 : decode cX6_wordOf 86 = .ok (.areturn, 1) := by decide +kernel
theorem dX6_wordOf_87 : decode cX6_wordOf 87 = .ok (.ldc 82, 2) := by decide +kernel
theorem dX6_wordOf_89 : decode cX6_wordOf 89 = .ok (.areturn, 1) := by decide +kernel
theorem dX6_wordOf_90 : decode cX6_wordOf 90 = .ok (.ldc 84, 2) := by decide +kernel
theorem dX6_wordOf_92 : decode cX6_wordOf 92 = .ok (.areturn, 1) := by decide +kernel
theorem dX6_wordOf_93 : decode cX6_wordOf 93 = .ok (.ldc 86, 2) := by decide +kernel
theorem dX6_wordOf_95 : decode cX6_wordOf 95 = .ok (.areturn, 1) := by decide +kernel
theorem dX6_value_0 : decode cX6_value 0 = .ok (.iconst 0, 1) := by decide +kernel
theorem dX6_value_1 : decode cX6_value 1 = .ok (.istore_n 2, 1) := by decide +kernel
theorem dX6_value_2 : decode cX6_value 2 = .ok (.aload_n 0, 1) := by decide +kernel
theorem dX6_value_3 : decode cX6_value 3 = .ok (.getfield 19, 3) := by decide +kernel
theorem dX6_value_6 : decode cX6_value 6 = .ok (.iload_n 1, 1) := by decide +kernel
theorem dX6_value_7 : decode cX6_value 7 = .ok (.iaload, 1) := by decide +kernel
theorem dX6_value_8 : decode cX6_value 8 = .ok (.istore_n 3, 1) := by decide +kernel
theorem dX6_value_9 : decode cX6_value 9 = .ok (.iload_n 3, 1) := by decide +kernel
theorem dX6_value_10 : decode cX6_value 10 = .ok (.aload_n 0, 1) := by decide +kernel
theorem dX6_value_11 : decode cX6_value 11 = .ok (.getfield 22, 3) := by decide +kernel
theorem dX6_value_14 : decode cX6_value 14 = .ok (.iload_n 1, 1) := by decide +kernel
theorem dX6_value_15 : decode cX6_value 15 = .ok (.iaload, 1) := by decide +kernel
theorem dX6_value_16 : decode cX6_value 16 = .ok (.if_icmp .ge 24, 3) := by decide +kernel
theorem dX6_value_19 : decode cX6_value 19 = .ok (.bipush 10, 2) := by decide +kernel
theorem dX6_value_21 : decode cX6_value 21 = .ok (.iload_n 2, 1) := by decide +kernel
theorem dX6_value_22 : decode cX6_value 22 = .ok (.imul, 1) := by decide +kernel
theorem dX6_value_23 : decode cX6_value 23 = .ok (.aload_n 0, 1) := by decide +kernel
theorem dX6_value_24 : decode cX6_value 24 = .ok (.getfield 9, 3) := by decide +kernel
theorem dX6_value_27 : decode cX6_value 27 = .ok (.iload_n 3, 1) := by decide +kernel
theorem dX6_value_28 : decode cX6_value 28 = .ok (.baload, 1) := by decide +kernel
theorem dX6_value_29 : decode cX6_value 29 = .ok (.iadd, 1) := by decide +kernel
theorem dX6_value_30 : decode cX6_value 30 = .ok (.bipush 48, 2) := by decide +kernel
theorem dX6_value_32 : decode cX6_value 32 = .ok (.isub, 1) := by decide +kernel
theorem dX6_value_33 : decode cX6_value 33 = .ok (.istore_n 2, 1) := by decide +kernel
theorem dX6_value_34 : decode cX6_value 34 = .ok (.iinc 3 1, 3) := by decide +kernel
theorem dX6_value_37 : decode cX6_value 37 = .ok (.goto (-28), 3) := by decide +kernel
theorem dX6_value_40 : decode cX6_value 40 = .ok (.iload_n 2, 1) := by decide +kernel
theorem dX6_value_41 : decode cX6_value 41 = .ok (.ireturn, 1) := by decide +kernel
theorem dX6_pointSet_0 : decode cX6_pointSet 0 = .ok (.iconst 0, 1) := by decide +kernel
theorem dX6_pointSet_1 : decode cX6_pointSet 1 = .ok (.istore_n 2, 1) := by decide +kernel
theorem dX6_pointSet_2 : decode cX6_pointSet 2 = .ok (.aload_n 0, 1) := by decide +kernel
theorem dX6_pointSet_3 : decode cX6_pointSet 3 = .ok (.getfield 19, 3) := by decide +kernel
theorem dX6_pointSet_6 : decode cX6_pointSet 6 = .ok (.iload_n 1, 1) := by decide +kernel
theorem dX6_pointSet_7 : decode cX6_pointSet 7 = .ok (.iaload, 1) := by decide +kernel
theorem dX6_pointSet_8 : decode cX6_pointSet 8 = .ok (.istore_n 3, 1) := by decide +kernel
theorem dX6_pointSet_9 : decode cX6_pointSet 9 = .ok (.iload_n 3, 1) := by decide +kernel
theorem dX6_pointSet_10 : decode cX6_pointSet 10 = .ok (.aload_n 0, 1) := by decide +kernel
theorem dX6_pointSet_11 : decode cX6_pointSet 11 = .ok (.getfield 22, 3) := by decide +kernel
theorem dX6_pointSet_14 : decode cX6_pointSet 14 = .ok (.iload_n 1, 1) := by decide +kernel
theorem dX6_pointSet_15 : decode cX6_pointSet 15 = .ok (.iaload, 1) := by decide +kernel
theorem dX6_pointSet_16 : decode cX6_pointSet 16 = .ok (.if_icmp .ge 36, 3) := by decide +kernel
theorem dX6_pointSet_19 : decode cX6_pointSet 19 = .ok (.aload_n 0, 1) := by decide +kernel
theorem dX6_pointSet_20 : decode cX6_pointSet 20 = .ok (.getfield 9, 3) := by decide +kernel
theorem dX6_pointSet_23 : decode cX6_pointSet 23 = .ok (.iload_n 3, 1) := by decide +kernel
theorem dX6_pointSet_24 : decode cX6_pointSet 24 = .ok (.baload, 1) := by decide +kernel
theorem dX6_pointSet_25 : decode cX6_pointSet 25 = .ok (.bipush 48, 2) := by decide +kernel
theorem dX6_pointSet_27 : decode cX6_pointSet 27 = .ok (.isub, 1) := by decide +kernel
theorem dX6_pointSet_28 : decode cX6_pointSet 28 = .ok (.istore 4, 2) := by decide +kernel
theorem dX6_pointSet_30 : decode cX6_pointSet 30 = .ok (.iload 4, 2) := by decide +kernel
theorem dX6_pointSet_32 : decode cX6_pointSet 32 = .ok (.bipush 8, 2) := by decide +kernel
theorem dX6_pointSet_34 : decode cX6_pointSet 34 = .ok (.if_icmp .lt 5, 3) := by decide +kernel
theorem dX6_pointSet_37 : decode cX6_pointSet 37 = .ok (.iconst (-1), 1) := by decide +kernel
theorem dX6_pointSet_38 : decode cX6_pointSet 38 = .ok (.ireturn, 1) := by decide +kernel
theorem dX6_pointSet_39 : decode cX6_pointSet 39 = .ok (.iload_n 2, 1) := by decide +kernel
theorem dX6_pointSet_40 : decode cX6_pointSet 40 = .ok (.iconst 1, 1) := by decide +kernel
theorem dX6_pointSet_41 : decode cX6_pointSet 41 = .ok (.iload 4, 2) := by decide +kernel
theorem dX6_pointSet_43 : decode cX6_pointSet 43 = .ok (.ishl, 1) := by decide +kernel
theorem dX6_pointSet_44 : decode cX6_pointSet 44 = .ok (.ior, 1) := by decide +kernel
theorem dX6_pointSet_45 : decode cX6_pointSet 45 = .ok (.istore_n 2, 1) := by decide +kernel
theorem dX6_pointSet_46 : decode cX6_pointSet 46 = .ok (.iinc 3 1, 3) := by decide +kernel
theorem dX6_pointSet_49 : decode cX6_pointSet 49 = .ok (.goto (-40), 3) := by decide +kernel
theorem dX6_pointSet_52 : decode cX6_pointSet 52 = .ok (.iload_n 2, 1) := by decide +kernel
theorem dX6_pointSet_53 : decode cX6_pointSet 53 = .ok (.ireturn, 1) := by decide +kernel
theorem dX7_init_0 : decode cX7_init 0 = .ok (.aload_n 0, 1) := by decide +kernel
theorem dX7_init_1 : decode cX7_init 1 = .ok (.invokespecial 3, 3) := by decide +kernel
theorem dX7_init_4 : decode cX7_init 4 = .ok (.aload_n 0, 1) := by decide +kernel
theorem dX7_init_5 : decode cX7_init 5 = .ok (.bipush 70, 2) := by decide +kernel
theorem dX7_init_7 : decode cX7_init 7 = .ok (.newarray .int, 2) := by decide +kernel
theorem dX7_init_9 : decode cX7_init 9 = .ok (.putfield 9, 3) := by decide +kernel
theorem dX7_init_12 : decode cX7_init 12 = .ok (.aload_n 0, 1) := by decide +kernel
theorem dX7_init_13 : decode cX7_init 13 = .ok (.bipush 70, 2) := by decide +kernel
theorem dX7_init_15 : decode cX7_init 15 = .ok (.newarray .int, 2) := by decide +kernel
theorem dX7_init_17 : decode cX7_init 17 = .ok (.putfield 15, 3) := by decide +kernel
theorem dX7_init_20 : decode cX7_init 20 = .ok (.aload_n 0, 1) := by decide +kernel
theorem dX7_init_21 : decode cX7_init 21 = .ok (.bipush 70, 2) := by decide +kernel
theorem dX7_init_23 : decode cX7_init 23 = .ok (.newarray .int, 2) := by decide +kernel
theorem dX7_init_25 : decode cX7_init 25 = .ok (.putfield 18, 3) := by decide +kernel
theorem dX7_init_28 : decode cX7_init 28 = .ok (.aload_n 0, 1) := by decide +kernel
theorem dX7_init_29 : decode cX7_init 29 = .ok (.bipush 70, 2) := by decide +kernel
theorem dX7_init_31 : decode cX7_init 31 = .ok (.newarray .int, 2) := by decide +kernel
theorem dX7_init_33 : decode cX7_init 33 = .ok (.putfield 21, 3) := by decide +kernel
theorem dX7_init_36 : decode cX7_init 36 = .ok (.return_, 1) := by decide +kernel
theorem dX7_load_0 : decode cX7_load 0 = .ok (.aload_n 0, 1) := by decide +kernel
theorem dX7_load_1 : decode cX7_load 1 = .ok (.aload_n 1, 1) := by decide +kernel
theorem dX7_load_2 : decode cX7_load 2 = .ok (.getfield 24, 3) := by decide +kernel
theorem dX7_load_5 : decode cX7_load 5 = .ok (.putfield 30, 3) := by decide +kernel
theorem dX7_load_8 : decode cX7_load 8 = .ok (.aload_n 0, 1) := by decide +kernel
theorem dX7_load_9 : decode cX7_load 9 = .ok (.iconst 0, 1) := by decide +kernel
theorem dX7_load_10 : decode cX7_load 10 = .ok (.putfield 31, 3) := by decide +kernel
theorem dX7_load_13 : decode cX7_load 13 = .ok (.iconst 1, 1) := by decide +kernel
theorem dX7_load_14 : decode cX7_load 14 = .ok (.istore_n 2, 1) := by decide +kernel
theorem dX7_load_15 : decode cX7_load 15 = .ok (.iload_n 2, 1) := by decide +kernel
theorem dX7_load_16 : decode cX7_load 16 = .ok (.sipush 256, 3) := by decide +kernel
theorem dX7_load_19 : decode cX7_load 19 = .ok (.if_icmp .ge 57, 3) := by decide +kernel
theorem dX7_load_22 : decode cX7_load 22 = .ok (.aload_n 1, 1) := by decide +kernel
theorem dX7_load_23 : decode cX7_load 23 = .ok (.iload_n 2, 1) := by decide +kernel
theorem dX7_load_24 : decode cX7_load 24 = .ok (.invokevirtual 34, 3) := by decide +kernel
theorem dX7_load_27 : decode cX7_load 27 = .ok (.ifCond .eq 43, 3) := by decide +kernel
theorem dX7_load_30 : decode cX7_load 30 = .ok (.aload_n 0, 1) := by decide +kernel
theorem dX7_load_31 : decode cX7_load 31 = .ok (.getfield 31, 3) := by decide +kernel
theorem dX7_load_34 : decode cX7_load 34 = .ok (.bipush 70, 2) := by decide +kernel
theorem dX7_load_36 : decode cX7_load 36 = .ok (.if_icmp .ge 34, 3) := by decide +kernel
theorem dX7_load_39 : decode cX7_load 39 = .ok (.aload_n 0, 1) := by decide +kernel
theorem dX7_load_40 : decode cX7_load 40 = .ok (.getfield 9, 3) := by decide +kernel
theorem dX7_load_43 : decode cX7_load 43 = .ok (.aload_n 0, 1) := by decide +kernel
theorem dX7_load_44 : decode cX7_load 44 = .ok (.getfield 31, 3) := by decide +kernel
theorem dX7_load_47 : decode cX7_load 47 = .ok (.iload_n 2, 1) := by decide +kernel
theorem dX7_load_48 : decode cX7_load 48 = .ok (.iastore, 1) := by decide +kernel
theorem dX7_load_49 : decode cX7_load 49 = .ok (.aload_n 0, 1) := by decide +kernel
theorem dX7_load_50 : decode cX7_load 50 = .ok (.getfield 15, 3) := by decide +kernel
theorem dX7_load_53 : decode cX7_load 53 = .ok (.aload_n 0, 1) := by decide +kernel
theorem dX7_load_54 : decode cX7_load 54 = .ok (.getfield 31, 3) := by decide +kernel
theorem dX7_load_57 : decode cX7_load 57 = .ok (.bipush (-5), 2) := by decide +kernel
theorem dX7_load_59 : decode cX7_load 59 = .ok (.iastore, 1) := by decide +kernel
theorem dX7_load_60 : decode cX7_load 60 = .ok (.aload_n 0, 1) := by decide +kernel
theorem dX7_load_61 : decode cX7_load 61 = .ok (.dup, 1) := by decide +kernel
theorem dX7_load_62 : decode cX7_load 62 = .ok (.getfield 31, 3) := by decide +kernel
theorem dX7_load_65 : decode cX7_load 65 = .ok (.iconst 1, 1) := by decide +kernel
theorem dX7_load_66 : decode cX7_load 66 = .ok (.iadd, 1) := by decide +kernel
theorem dX7_load_67 : decode cX7_load 67 = .ok (.putfield 31, 3) := by decide +kernel
theorem dX7_load_70 : decode cX7_load 70 = .ok (.iinc 2 1, 3) := by decide +kernel
theorem dX7_load_73 : decode cX7_load 73 = .ok (.goto (-58), 3) := by decide +kernel
theorem dX7_load_76 : decode cX7_load 76 = .ok (.return_, 1) := by decide +kernel
theorem dX7_bodyAt_0 : decode cX7_bodyAt 0 = .ok (.iload_n 1, 1) := by decide +kernel
theorem dX7_bodyAt_1 : decode cX7_bodyAt 1 = .ok (.ifCond .lt 20, 3) := by decide +kernel
theorem dX7_bodyAt_4 : decode cX7_bodyAt 4 = .ok (.iload_n 1, 1) := by decide +kernel
theorem dX7_bodyAt_5 : decode cX7_bodyAt 5 = .ok (.aload_n 0, 1) := by decide +kernel
theorem dX7_bodyAt_6 : decode cX7_bodyAt 6 = .ok (.getfield 31, 3) := by decide +kernel
theorem dX7_bodyAt_9 : decode cX7_bodyAt 9 = .ok (.if_icmp .ge 12, 3) := by decide +kernel
theorem dX7_bodyAt_12 : decode cX7_bodyAt 12 = .ok (.aload_n 0, 1) := by decide +kernel
theorem dX7_bodyAt_13 : decode cX7_bodyAt 13 = .ok (.getfield 9, 3) := by decide +kernel
theorem dX7_bodyAt_16 : decode cX7_bodyAt 16 = .ok (.iload_n 1, 1) := by decide +kernel
theorem dX7_bodyAt_17 : decode cX7_bodyAt 17 = .ok (.iaload, 1) := by decide +kernel
theorem dX7_bodyAt_18 : decode cX7_bodyAt 18 = .ok (.goto 4, 3) := by decide +kernel
theorem dX7_bodyAt_21 : decode cX7_bodyAt 21 = .ok (.iconst 0, 1) := by decide +kernel
theorem dX7_bodyAt_22 : decode cX7_bodyAt 22 = .ok (.ireturn, 1) := by decide +kernel
theorem dX7_beside_0 : decode cX7_beside 0 = .ok (.aload_n 0, 1) := by decide +kernel
theorem dX7_beside_1 : decode cX7_beside 1 = .ok (.getfield 9, 3) := by decide +kernel
theorem dX7_beside_4 : decode cX7_beside 4 = .ok (.iload_n 1, 1) := by decide +kernel
theorem dX7_beside_5 : decode cX7_beside 5 = .ok (.iaload, 1) := by decide +kernel
theorem dX7_beside_6 : decode cX7_beside 6 = .ok (.aload_n 0, 1) := by decide +kernel
theorem dX7_beside_7 : decode cX7_beside 7 = .ok (.getfield 9, 3) := by decide +kernel
theorem dX7_beside_10 : decode cX7_beside 10 = .ok (.iload_n 2, 1) := by decide +kernel
theorem dX7_beside_11 : decode cX7_beside 11 = .ok (.iaload, 1) := by decide +kernel
theorem dX7_beside_12 : decode cX7_beside 12 = .ok (.iand, 1) := by decide +kernel
theorem dX7_beside_13 : decode cX7_beside 13 = .ok (.invokestatic 38, 3) := by decide +kernel
theorem dX7_beside_16 : decode cX7_beside 16 = .ok (.aload_n 0, 1) := by decide +kernel
theorem dX7_beside_17 : decode cX7_beside 17 = .ok (.getfield 30, 3) := by decide +kernel
theorem dX7_beside_20 : decode cX7_beside 20 = .ok (.iconst 1, 1) := by decide +kernel
theorem dX7_beside_21 : decode cX7_beside 21 = .ok (.isub, 1) := by decide +kernel
theorem dX7_beside_22 : decode cX7_beside 22 = .ok (.if_icmp .ne 7, 3) := by decide +kernel
theorem dX7_beside_25 : decode cX7_beside 25 = .ok (.iconst 1, 1) := by decide +kernel
theorem dX7_beside_26 : decode cX7_beside 26 = .ok (.goto 4, 3) := by decide +kernel
theorem dX7_beside_29 : decode cX7_beside 29 = .ok (.iconst 0, 1) := by decide +kernel
theorem dX7_beside_30 : decode cX7_beside 30 = .ok (.ireturn, 1) := by decide +kernel
theorem dX7_sameSign_0 : decode cX7_sameSign 0 = .ok (.aload_n 0, 1) := by decide +kernel
theorem dX7_sameSign_1 : decode cX7_sameSign 1 = .ok (.getfield 9, 3) := by decide +kernel
theorem dX7_sameSign_4 : decode cX7_sameSign 4 = .ok (.iload_n 1, 1) := by decide +kernel
theorem dX7_sameSign_5 : decode cX7_sameSign 5 = .ok (.iaload, 1) := by decide +kernel
theorem dX7_sameSign_6 : decode cX7_sameSign 6 = .ok (.aload_n 0, 1) := by decide +kernel
theorem dX7_sameSign_7 : decode cX7_sameSign 7 = .ok (.getfield 9, 3) := by decide +kernel
theorem dX7_sameSign_10 : decode cX7_sameSign 10 = .ok (.iload_n 2, 1) := by decide +kernel
theorem dX7_sameSign_11 : decode cX7_sameSign 11 = .ok (.iaload, 1) := by decide +kernel
theorem dX7_sameSign_12 : decode cX7_sameSign 12 = .ok (.iconst (-1), 1) := by decide +kernel
theorem dX7_sameSign_13 : decode cX7_sameSign 13 = .ok (.ixor, 1) := by decide +kernel
theorem dX7_sameSign_14 : decode cX7_sameSign 14 = .ok (.iand, 1) := by decide +kernel
theorem dX7_sameSign_15 : decode cX7_sameSign 15 = .ok (.istore_n 3, 1) := by decide +kernel
theorem dX7_sameSign_16 : decode cX7_sameSign 16 = .ok (.aload_n 0, 1) := by decide +kernel
theorem dX7_sameSign_17 : decode cX7_sameSign 17 = .ok (.getfield 9, 3) := by decide +kernel
theorem dX7_sameSign_20 : decode cX7_sameSign 20 = .ok (.iload_n 2, 1) := by decide +kernel
theorem dX7_sameSign_21 : decode cX7_sameSign 21 = .ok (.iaload, 1) := by decide +kernel
theorem dX7_sameSign_22 : decode cX7_sameSign 22 = .ok (.aload_n 0, 1) := by decide +kernel
theorem dX7_sameSign_23 : decode cX7_sameSign 23 = .ok (.getfield 9, 3) := by decide +kernel
theorem dX7_sameSign_26 : decode cX7_sameSign 26 = .ok (.iload_n 1, 1) := by decide +kernel
theorem dX7_sameSign_27 : decode cX7_sameSign 27 = .ok (.iaload, 1) := by decide +kernel
theorem dX7_sameSign_28 : decode cX7_sameSign 28 = .ok (.iconst (-1), 1) := by decide +kernel
theorem dX7_sameSign_29 : decode cX7_sameSign 29 = .ok (.ixor, 1) := by decide +kernel
theorem dX7_sameSign_30 : decode cX7_sameSign 30 = .ok (.iand, 1) := by decide +kernel
theorem dX7_sameSign_31 : decode cX7_sameSign 31 = .ok (.istore 4, 2) := by decide +kernel
theorem dX7_sameSign_33 : decode cX7_sameSign 33 = .ok (.aload_n 0, 1) := by decide +kernel
theorem dX7_sameSign_34 : decode cX7_sameSign 34 = .ok (.getfield 9, 3) := by decide +kernel
theorem dX7_sameSign_37 : decode cX7_sameSign 37 = .ok (.iload_n 1, 1) := by decide +kernel
theorem dX7_sameSign_38 : decode cX7_sameSign 38 = .ok (.iaload, 1) := by decide +kernel
theorem dX7_sameSign_39 : decode cX7_sameSign 39 = .ok (.iload_n 3, 1) := by decide +kernel
theorem dX7_sameSign_40 : decode cX7_sameSign 40 = .ok (.iconst 1, 1) := by decide +kernel
theorem dX7_sameSign_41 : decode cX7_sameSign 41 = .ok (.isub, 1) := by decide +kernel
theorem dX7_sameSign_42 : decode cX7_sameSign 42 = .ok (.iand, 1) := by decide +kernel
theorem dX7_sameSign_43 : decode cX7_sameSign 43 = .ok (.invokestatic 38, 3) := by decide +kernel
theorem dX7_sameSign_46 : decode cX7_sameSign 46 = .ok (.aload_n 0, 1) := by decide +kernel
theorem dX7_sameSign_47 : decode cX7_sameSign 47 = .ok (.getfield 9, 3) := by decide +kernel
theorem dX7_sameSign_50 : decode cX7_sameSign 50 = .ok (.iload_n 2, 1) := by decide +kernel
theorem dX7_sameSign_51 : decode cX7_sameSign 51 = .ok (.iaload, 1) := by decide +kernel
theorem dX7_sameSign_52 : decode cX7_sameSign 52 = .ok (.iload 4, 2) := by decide +kernel
theorem dX7_sameSign_54 : decode cX7_sameSign 54 = .ok (.iconst 1, 1) := by decide +kernel
theorem dX7_sameSign_55 : decode cX7_sameSign 55 = .ok (.isub, 1) := by decide +kernel
theorem dX7_sameSign_56 : decode cX7_sameSign 56 = .ok (.iand, 1) := by decide +kernel
theorem dX7_sameSign_57 : decode cX7_sameSign 57 = .ok (.invokestatic 38, 3) := by decide +kernel
theorem dX7_sameSign_60 : decode cX7_sameSign 60 = .ok (.iadd, 1) := by decide +kernel
theorem dX7_sameSign_61 : decode cX7_sameSign 61 = .ok (.istore 5, 2) := by decide +kernel
theorem dX7_sameSign_63 : decode cX7_sameSign 63 = .ok (.iload 5, 2) := by decide +kernel
theorem dX7_sameSign_65 : decode cX7_sameSign 65 = .ok (.iconst 2, 1) := by decide +kernel
theorem dX7_sameSign_66 : decode cX7_sameSign 66 = .ok (.irem, 1) := by decide +kernel
theorem dX7_sameSign_67 : decode cX7_sameSign 67 = .ok (.iconst 1, 1) := by decide +kernel
theorem dX7_sameSign_68 : decode cX7_sameSign 68 = .ok (.if_icmp .ne 7, 3) := by decide +kernel
theorem dX7_sameSign_71 : decode cX7_sameSign 71 = .ok (.iconst 1, 1) := by decide +kernel
theorem dX7_sameSign_72 : decode cX7_sameSign 72 = .ok (.goto 4, 3) := by decide +kernel
theorem dX7_sameSign_75 : decode cX7_sameSign 75 = .ok (.iconst 0, 1) := by decide +kernel
theorem dX7_sameSign_76 : decode cX7_sameSign 76 = .ok (.ireturn, 1) := by decide +kernel
theorem dX7_spread_0 : decode cX7_spread 0 = .ok (.aload_n 0, 1) := by decide +kernel
theorem dX7_spread_1 : decode cX7_spread 1 = .ok (.getfield 15, 3) := by decide +kernel
theorem dX7_spread_4 : decode cX7_spread 4 = .ok (.iload_n 1, 1) := by decide +kernel
theorem dX7_spread_5 : decode cX7_spread 5 = .ok (.iconst 0, 1) := by decide +kernel
theorem dX7_spread_6 : decode cX7_spread 6 = .ok (.iastore, 1) := by decide +kernel
theorem dX7_spread_7 : decode cX7_spread 7 = .ok (.aload_n 0, 1) := by decide +kernel
theorem dX7_spread_8 : decode cX7_spread 8 = .ok (.getfield 18, 3) := by decide +kernel
theorem dX7_spread_11 : decode cX7_spread 11 = .ok (.iload_n 1, 1) := by decide +kernel
theorem dX7_spread_12 : decode cX7_spread 12 = .ok (.iconst 0, 1) := by decide +kernel
theorem dX7_spread_13 : decode cX7_spread 13 = .ok (.iastore, 1) := by decide +kernel
theorem dX7_spread_14 : decode cX7_spread 14 = .ok (.aload_n 0, 1) := by decide +kernel
theorem dX7_spread_15 : decode cX7_spread 15 = .ok (.getfield 21, 3) := by decide +kernel
theorem dX7_spread_18 : decode cX7_spread 18 = .ok (.iconst 0, 1) := by decide +kernel
theorem dX7_spread_19 : decode cX7_spread 19 = .ok (.iload_n 1, 1) := by decide +kernel
theorem dX7_spread_20 : decode cX7_spread 20 = .ok (.iastore, 1) := by decide +kernel
theorem dX7_spread_21 : decode cX7_spread 21 = .ok (.iconst 1, 1) := by decide +kernel
theorem dX7_spread_22 : decode cX7_spread 22 = .ok (.istore_n 2, 1) := by decide +kernel
theorem dX7_spread_23 : decode cX7_spread 23 = .ok (.iconst 0, 1) := by decide +kernel
theorem dX7_spread_24 : decode cX7_spread 24 = .ok (.istore_n 3, 1) := by decide +kernel
theorem dX7_spread_25 : decode cX7_spread 25 = .ok (.iload_n 3, 1) := by decide +kernel
theorem dX7_spread_26 : decode cX7_spread 26 = .ok (.aload_n 0, 1) := by decide +kernel
theorem dX7_spread_27 : decode cX7_spread 27 = .ok (.getfield 31, 3) := by decide +kernel
theorem dX7_spread_30 : decode cX7_spread 30 = .ok (.if_icmp .ge 131, 3) := by decide +kernel
theorem dX7_spread_33 : decode cX7_spread 33 = .ok (.iload_n 3, 1) := by decide +kernel
theorem dX7_spread_34 : decode cX7_spread 34 = .ok (.iload_n 2, 1) := by decide +kernel
theorem dX7_spread_35 : decode cX7_spread 35 = .ok (.if_icmp .ge 126, 3) := by decide +kernel
theorem dX7_spread_38 : decode cX7_spread 38 = .ok (.aload_n 0, 1) := by decide +kernel
theorem dX7_spread_39 : decode cX7_spread 39 = .ok (.getfield 21, 3) := by decide +kernel
theorem dX7_spread_42 : decode cX7_spread 42 = .ok (.iload_n 3, 1) := by decide +kernel
theorem dX7_spread_43 : decode cX7_spread 43 = .ok (.iaload, 1) := by decide +kernel
theorem dX7_spread_44 : decode cX7_spread 44 = .ok (.istore 4, 2) := by decide +kernel
theorem dX7_spread_46 : decode cX7_spread 46 = .ok (.iconst 0, 1) := by decide +kernel
theorem dX7_spread_47 : decode cX7_spread 47 = .ok (.istore 5, 2) := by decide +kernel
theorem dX7_spread_49 : decode cX7_spread 49 = .ok (.iload 5, 2) := by decide +kernel
theorem dX7_spread_51 : decode cX7_spread 51 = .ok (.aload_n 0, 1) := by decide +kernel
theorem dX7_spread_52 : decode cX7_spread 52 = .ok (.getfield 31, 3) := by decide +kernel
theorem dX7_spread_55 : decode cX7_spread 55 = .ok (.if_icmp .ge 100, 3) := by decide +kernel
theorem dX7_spread_58 : decode cX7_spread 58 = .ok (.aload_n 0, 1) := by decide +kernel
theorem dX7_spread_59 : decode cX7_spread 59 = .ok (.getfield 15, 3) := by decide +kernel
theorem dX7_spread_62 : decode cX7_spread 62 = .ok (.iload 5, 2) := by decide +kernel
theorem dX7_spread_64 : decode cX7_spread 64 = .ok (.iaload, 1) := by decide +kernel
theorem dX7_spread_65 : decode cX7_spread 65 = .ok (.ifCond .ge 84, 3) := by decide +kernel
theorem dX7_spread_68 : decode cX7_spread 68 = .ok (.aload_n 0, 1) := by decide +kernel
theorem dX7_spread_69 : decode cX7_spread 69 = .ok (.iload 4, 2) := by decide +kernel
theorem dX7_spread_71 : decode cX7_spread 71 = .ok (.iload 5, 2) := by decide +kernel
theorem dX7_spread_73 : decode cX7_spread 73 = .ok (.invokevirtual 44, 3) := by decide +kernel
theorem dX7_spread_76 : decode cX7_spread 76 = .ok (.ifCond .eq 73, 3) := by decide +kernel
theorem dX7_spread_79 : decode cX7_spread 79 = .ok (.iload_n 2, 1) := by decide +kernel
theorem dX7_spread_80 : decode cX7_spread 80 = .ok (.bipush 70, 2) := by decide +kernel
theorem dX7_spread_82 : decode cX7_spread 82 = .ok (.if_icmp .ge 67, 3) := by decide +kernel
theorem dX7_spread_85 : decode cX7_spread 85 = .ok (.aload_n 0, 1) := by decide +kernel
theorem dX7_spread_86 : decode cX7_spread 86 = .ok (.getfield 15, 3) := by decide +kernel
theorem dX7_spread_89 : decode cX7_spread 89 = .ok (.iload 5, 2) := by decide +kernel
theorem dX7_spread_91 : decode cX7_spread 91 = .ok (.aload_n 0, 1) := by decide +kernel
theorem dX7_spread_92 : decode cX7_spread 92 = .ok (.getfield 15, 3) := by decide +kernel
theorem dX7_spread_95 : decode cX7_spread 95 = .ok (.iload 4, 2) := by decide +kernel
theorem dX7_spread_97 : decode cX7_spread 97 = .ok (.iaload, 1) := by decide +kernel
theorem dX7_spread_98 : decode cX7_spread 98 = .ok (.iconst 1, 1) := by decide +kernel
theorem dX7_spread_99 : decode cX7_spread 99 = .ok (.iadd, 1) := by decide +kernel
theorem dX7_spread_100 : decode cX7_spread 100 = .ok (.iastore, 1) := by decide +kernel
theorem dX7_spread_101 : decode cX7_spread 101 = .ok (.aload_n 0, 1) := by decide +kernel
theorem dX7_spread_102 : decode cX7_spread 102 = .ok (.getfield 18, 3) := by decide +kernel
theorem dX7_spread_105 : decode cX7_spread 105 = .ok (.iload 5, 2) := by decide +kernel
theorem dX7_spread_107 : decode cX7_spread 107 = .ok (.aload_n 0, 1) := by decide +kernel
theorem dX7_spread_108 : decode cX7_spread 108 = .ok (.iload 4, 2) := by decide +kernel
theorem dX7_spread_110 : decode cX7_spread 110 = .ok (.iload 5, 2) := by decide +kernel
theorem dX7_spread_112 : decode cX7_spread 112 = .ok (.invokevirtual 48, 3) := by decide +kernel
theorem dX7_spread_115 : decode cX7_spread 115 = .ok (.ifCond .eq 13, 3) := by decide +kernel
theorem dX7_spread_118 : decode cX7_spread 118 = .ok (.aload_n 0, 1) := by decide +kernel
theorem dX7_spread_119 : decode cX7_spread 119 = .ok (.getfield 18, 3) := by decide +kernel
theorem dX7_spread_122 : decode cX7_spread 122 = .ok (.iload 4, 2) := by decide +kernel
theorem dX7_spread_124 : decode cX7_spread 124 = .ok (.iaload, 1) := by decide +kernel
theorem dX7_spread_125 : decode cX7_spread 125 = .ok (.goto 12, 3) := by decide +kernel
theorem dX7_spread_128 : decode cX7_spread 128 = .ok (.iconst 1, 1) := by decide +kernel
theorem dX7_spread_129 : decode cX7_spread 129 = .ok (.aload_n 0, 1) := by decide +kernel
theorem dX7_spread_130 : decode cX7_spread 130 = .ok (.getfield 18, 3) := by decide +kernel
theorem dX7_spread_133 : decode cX7_spread 133 = .ok (.iload 4, 2) := by decide +kernel
theorem dX7_spread_135 : decode cX7_spread 135 = .ok (.iaload, 1) := by decide +kernel
theorem dX7_spread_136 : decode cX7_spread 136 = .ok (.isub, 1) := by decide +kernel
theorem dX7_spread_137 : decode cX7_spread 137 = .ok (.iastore, 1) := by decide +kernel
theorem dX7_spread_138 : decode cX7_spread 138 = .ok (.aload_n 0, 1) := by decide +kernel
theorem dX7_spread_139 : decode cX7_spread 139 = .ok (.getfield 21, 3) := by decide +kernel
theorem dX7_spread_142 : decode cX7_spread 142 = .ok (.iload_n 2, 1) := by decide +kernel
theorem dX7_spread_143 : decode cX7_spread 143 = .ok (.iload 5, 2) := by decide +kernel
theorem dX7_spread_145 : decode cX7_spread 145 = .ok (.iastore, 1) := by decide +kernel
theorem dX7_spread_146 : decode cX7_spread 146 = .ok (.iinc 2 1, 3) := by decide +kernel
theorem dX7_spread_149 : decode cX7_spread 149 = .ok (.iinc 5 1, 3) := by decide +kernel
theorem dX7_spread_152 : decode cX7_spread 152 = .ok (.goto (-103), 3) := by decide +kernel
theorem dX7_spread_155 : decode cX7_spread 155 = .ok (.iinc 3 1, 3) := by decide +kernel
theorem dX7_spread_158 : decode cX7_spread 158 = .ok (.goto (-133), 3) := by decide +kernel
theorem dX7_spread_161 : decode cX7_spread 161 = .ok (.return_, 1) := by decide +kernel
theorem dX7_parts_0 : decode cX7_parts 0 = .ok (.aload_n 0, 1) := by decide +kernel
theorem dX7_parts_1 : decode cX7_parts 1 = .ok (.aload_n 1, 1) := by decide +kernel
theorem dX7_parts_2 : decode cX7_parts 2 = .ok (.invokevirtual 51, 3) := by decide +kernel
theorem dX7_parts_5 : decode cX7_parts 5 = .ok (.iconst 0, 1) := by decide +kernel
theorem dX7_parts_6 : decode cX7_parts 6 = .ok (.istore_n 2, 1) := by decide +kernel
theorem dX7_parts_7 : decode cX7_parts 7 = .ok (.iconst 0, 1) := by decide +kernel
theorem dX7_parts_8 : decode cX7_parts 8 = .ok (.istore_n 3, 1) := by decide +kernel
theorem dX7_parts_9 : decode cX7_parts 9 = .ok (.iload_n 3, 1) := by decide +kernel
theorem dX7_parts_10 : decode cX7_parts 10 = .ok (.aload_n 0, 1) := by decide +kernel
theorem dX7_parts_11 : decode cX7_parts 11 = .ok (.getfield 31, 3) := by decide +kernel
theorem dX7_parts_14 : decode cX7_parts 14 = .ok (.if_icmp .ge 26, 3) := by decide +kernel
theorem dX7_parts_17 : decode cX7_parts 17 = .ok (.aload_n 0, 1) := by decide +kernel
theorem dX7_parts_18 : decode cX7_parts 18 = .ok (.getfield 15, 3) := by decide +kernel
theorem dX7_parts_21 : decode cX7_parts 21 = .ok (.iload_n 3, 1) := by decide +kernel
theorem dX7_parts_22 : decode cX7_parts 22 = .ok (.iaload, 1) := by decide +kernel
theorem dX7_parts_23 : decode cX7_parts 23 = .ok (.ifCond .ge 11, 3) := by decide +kernel
theorem dX7_parts_26 : decode cX7_parts 26 = .ok (.aload_n 0, 1) := by decide +kernel
theorem dX7_parts_27 : decode cX7_parts 27 = .ok (.iload_n 3, 1) := by decide +kernel
theorem dX7_parts_28 : decode cX7_parts 28 = .ok (.invokevirtual 55, 3) := by decide +kernel
theorem dX7_parts_31 : decode cX7_parts 31 = .ok (.iinc 2 1, 3) := by decide +kernel
theorem dX7_parts_34 : decode cX7_parts 34 = .ok (.iinc 3 1, 3) := by decide +kernel
theorem dX7_parts_37 : decode cX7_parts 37 = .ok (.goto (-28), 3) := by decide +kernel
theorem dX7_parts_40 : decode cX7_parts 40 = .ok (.iload_n 2, 1) := by decide +kernel
theorem dX7_parts_41 : decode cX7_parts 41 = .ok (.ireturn, 1) := by decide +kernel
theorem dX7_twoSided_0 : decode cX7_twoSided 0 = .ok (.aload_n 0, 1) := by decide +kernel
theorem dX7_twoSided_1 : decode cX7_twoSided 1 = .ok (.aload_n 1, 1) := by decide +kernel
theorem dX7_twoSided_2 : decode cX7_twoSided 2 = .ok (.invokevirtual 59, 3) := by decide +kernel
theorem dX7_twoSided_5 : decode cX7_twoSided 5 = .ok (.pop, 1) := by decide +kernel
theorem dX7_twoSided_6 : decode cX7_twoSided 6 = .ok (.iconst 0, 1) := by decide +kernel
theorem dX7_twoSided_7 : decode cX7_twoSided 7 = .ok (.istore_n 2, 1) := by decide +kernel
theorem dX7_twoSided_8 : decode cX7_twoSided 8 = .ok (.iload_n 2, 1) := by decide +kernel
theorem dX7_twoSided_9 : decode cX7_twoSided 9 = .ok (.aload_n 0, 1) := by decide +kernel
theorem dX7_twoSided_10 : decode cX7_twoSided 10 = .ok (.getfield 31, 3) := by decide +kernel
theorem dX7_twoSided_13 : decode cX7_twoSided 13 = .ok (.if_icmp .ge 67, 3) := by decide +kernel
theorem dX7_twoSided_16 : decode cX7_twoSided 16 = .ok (.iload_n 2, 1) := by decide +kernel
theorem dX7_twoSided_17 : decode cX7_twoSided 17 = .ok (.iconst 1, 1) := by decide +kernel
theorem dX7_twoSided_18 : decode cX7_twoSided 18 = .ok (.iadd, 1) := by decide +kernel
theorem dX7_twoSided_19 : decode cX7_twoSided 19 = .ok (.istore_n 3, 1) := by decide +kernel
theorem dX7_twoSided_20 : decode cX7_twoSided 20 = .ok (.iload_n 3, 1) := by decide +kernel
theorem dX7_twoSided_21 : decode cX7_twoSided 21 = .ok (.aload_n 0, 1) := by decide +kernel
theorem dX7_twoSided_22 : decode cX7_twoSided 22 = .ok (.getfield 31, 3) := by decide +kernel
theorem dX7_twoSided_25 : decode cX7_twoSided 25 = .ok (.if_icmp .ge 49, 3) := by decide +kernel
theorem dX7_twoSided_28 : decode cX7_twoSided 28 = .ok (.aload_n 0, 1) := by decide +kernel
theorem dX7_twoSided_29 : decode cX7_twoSided 29 = .ok (.iload_n 2, 1) := by decide +kernel
theorem dX7_twoSided_30 : decode cX7_twoSided 30 = .ok (.iload_n 3, 1) := by decide +kernel
theorem dX7_twoSided_31 : decode cX7_twoSided 31 = .ok (.invokevirtual 44, 3) := by decide +kernel
theorem dX7_twoSided_34 : decode cX7_twoSided 34 = .ok (.ifCond .eq 34, 3) := by decide +kernel
theorem dX7_twoSided_37 : decode cX7_twoSided 37 = .ok (.aload_n 0, 1) := by decide +kernel
theorem dX7_twoSided_38 : decode cX7_twoSided 38 = .ok (.iload_n 2, 1) := by decide +kernel
theorem dX7_twoSided_39 : decode cX7_twoSided 39 = .ok (.iload_n 3, 1) := by decide +kernel
theorem dX7_twoSided_40 : decode cX7_twoSided 40 = .ok (.invokevirtual 48, 3) := by decide +kernel
theorem dX7_twoSided_43 : decode cX7_twoSided 43 = .ok (.aload_n 0, 1) := by decide +kernel
theorem dX7_twoSided_44 : decode cX7_twoSided 44 = .ok (.getfield 18, 3) := by decide +kernel
theorem dX7_twoSided_47 : decode cX7_twoSided 47 = .ok (.iload_n 2, 1) := by decide +kernel
theorem dX7_twoSided_48 : decode cX7_twoSided 48 = .ok (.iaload, 1) := by decide +kernel
theorem dX7_twoSided_49 : decode cX7_twoSided 49 = .ok (.aload_n 0, 1) := by decide +kernel
theorem dX7_twoSided_50 : decode cX7_twoSided 50 = .ok (.getfield 18, 3) := by decide +kernel
theorem dX7_twoSided_53 : decode cX7_twoSided 53 = .ok (.iload_n 3, 1) := by decide +kernel
theorem dX7_twoSided_54 : decode cX7_twoSided 54 = .ok (.iaload, 1) := by decide +kernel
theorem dX7_twoSided_55 : decode cX7_twoSided 55 = .ok (.if_icmp .ne 7, 3) := by decide +kernel
theorem dX7_twoSided_58 : decode cX7_twoSided 58 = .ok (.iconst 1, 1) := by decide +kernel
theorem dX7_twoSided_59 : decode cX7_twoSided 59 = .ok (.goto 4, 3) := by decide +kernel
theorem dX7_twoSided_62 : decode cX7_twoSided 62 = .ok (.iconst 0, 1) := by decide +kernel
theorem dX7_twoSided_63 : decode cX7_twoSided 63 = .ok (.if_icmp .eq 5, 3) := by decide +kernel
theorem dX7_twoSided_66 : decode cX7_twoSided 66 = .ok (.iconst 0, 1) := by decide +kernel
theorem dX7_twoSided_67 : decode cX7_twoSided 67 = .ok (.ireturn, 1) := by decide +kernel
theorem dX7_twoSided_68 : decode cX7_twoSided 68 = .ok (.iinc 3 1, 3) := by decide +kernel
theorem dX7_twoSided_71 : decode cX7_twoSided 71 = .ok (.goto (-51), 3) := by decide +kernel
theorem dX7_twoSided_74 : decode cX7_twoSided 74 = .ok (.iinc 2 1, 3) := by decide +kernel
theorem dX7_twoSided_77 : decode cX7_twoSided 77 = .ok (.goto (-69), 3) := by decide +kernel
theorem dX7_twoSided_80 : decode cX7_twoSided 80 = .ok (.iconst 1, 1) := by decide +kernel
theorem dX7_twoSided_81 : decode cX7_twoSided 81 = .ok (.ireturn, 1) := by decide +kernel
theorem dX7_between_0 : decode cX7_between 0 = .ok (.aload_n 0, 1) := by decide +kernel
theorem dX7_between_1 : decode cX7_between 1 = .ok (.aload_n 1, 1) := by decide +kernel
theorem dX7_between_2 : decode cX7_between 2 = .ok (.invokevirtual 51, 3) := by decide +kernel
theorem dX7_between_5 : decode cX7_between 5 = .ok (.iload_n 2, 1) := by decide +kernel
theorem dX7_between_6 : decode cX7_between 6 = .ok (.aload_n 0, 1) := by decide +kernel
theorem dX7_between_7 : decode cX7_between 7 = .ok (.getfield 31, 3) := by decide +kernel
theorem dX7_between_10 : decode cX7_between 10 = .ok (.if_icmp .ge 11, 3) := by decide +kernel
theorem dX7_between_13 : decode cX7_between 13 = .ok (.iload_n 3, 1) := by decide +kernel
theorem dX7_between_14 : decode cX7_between 14 = .ok (.aload_n 0, 1) := by decide +kernel
theorem dX7_between_15 : decode cX7_between 15 = .ok (.getfield 31, 3) := by decide +kernel
theorem dX7_between_18 : decode cX7_between 18 = .ok (.if_icmp .lt 6, 3) := by decide +kernel
theorem dX7_between_21 : decode cX7_between 21 = .ok (.bipush (-5), 2) := by decide +kernel
theorem dX7_between_23 : decode cX7_between 23 = .ok (.ireturn, 1) := by decide +kernel
theorem dX7_between_24 : decode cX7_between 24 = .ok (.aload_n 0, 1) := by decide +kernel
theorem dX7_between_25 : decode cX7_between 25 = .ok (.iload_n 2, 1) := by decide +kernel
theorem dX7_between_26 : decode cX7_between 26 = .ok (.invokevirtual 55, 3) := by decide +kernel
theorem dX7_between_29 : decode cX7_between 29 = .ok (.aload_n 0, 1) := by decide +kernel
theorem dX7_between_30 : decode cX7_between 30 = .ok (.getfield 15, 3) := by decide +kernel
theorem dX7_between_33 : decode cX7_between 33 = .ok (.iload_n 3, 1) := by decide +kernel
theorem dX7_between_34 : decode cX7_between 34 = .ok (.iaload, 1) := by decide +kernel
theorem dX7_between_35 : decode cX7_between 35 = .ok (.ireturn, 1) := by decide +kernel
theorem dX7_fits_0 : decode cX7_fits 0 = .ok (.aload_n 0, 1) := by decide +kernel
theorem dX7_fits_1 : decode cX7_fits 1 = .ok (.aload_n 1, 1) := by decide +kernel
theorem dX7_fits_2 : decode cX7_fits 2 = .ok (.iload_n 2, 1) := by decide +kernel
theorem dX7_fits_3 : decode cX7_fits 3 = .ok (.iload_n 3, 1) := by decide +kernel
theorem dX7_fits_4 : decode cX7_fits 4 = .ok (.invokevirtual 63, 3) := by decide +kernel
theorem dX7_fits_7 : decode cX7_fits 7 = .ok (.invokevirtual 69, 3) := by decide +kernel
theorem dX7_fits_10 : decode cX7_fits 10 = .ok (.istore 4, 2) := by decide +kernel
theorem dX7_fits_12 : decode cX7_fits 12 = .ok (.iload 4, 2) := by decide +kernel
theorem dX7_fits_14 : decode cX7_fits 14 = .ok (.ifCond .ne 5, 3) := by decide +kernel
theorem dX7_fits_17 : decode cX7_fits 17 = .ok (.iconst 0, 1) := by decide +kernel
theorem dX7_fits_18 : decode cX7_fits 18 = .ok (.ireturn, 1) := by decide +kernel
theorem dX7_fits_19 : decode cX7_fits 19 = .ok (.iconst 0, 1) := by decide +kernel
theorem dX7_fits_20 : decode cX7_fits 20 = .ok (.istore 5, 2) := by decide +kernel
theorem dX7_fits_22 : decode cX7_fits 22 = .ok (.iconst 0, 1) := by decide +kernel
theorem dX7_fits_23 : decode cX7_fits 23 = .ok (.istore 6, 2) := by decide +kernel
theorem dX7_fits_25 : decode cX7_fits 25 = .ok (.iload 6, 2) := by decide +kernel
theorem dX7_fits_27 : decode cX7_fits 27 = .ok (.iload_n 3, 1) := by decide +kernel
theorem dX7_fits_28 : decode cX7_fits 28 = .ok (.if_icmp .ge 43, 3) := by decide +kernel
theorem dX7_fits_31 : decode cX7_fits 31 = .ok (.iload 4, 2) := by decide +kernel
theorem dX7_fits_33 : decode cX7_fits 33 = .ok (.aload_n 0, 1) := by decide +kernel
theorem dX7_fits_34 : decode cX7_fits 34 = .ok (.aload_n 1, 1) := by decide +kernel
theorem dX7_fits_35 : decode cX7_fits 35 = .ok (.iload_n 2, 1) := by decide +kernel
theorem dX7_fits_36 : decode cX7_fits 36 = .ok (.iload 6, 2) := by decide +kernel
theorem dX7_fits_38 : decode cX7_fits 38 = .ok (.invokevirtual 63, 3) := by decide +kernel
theorem dX7_fits_41 : decode cX7_fits 41 = .ok (.invokevirtual 69, 3) := by decide +kernel
theorem dX7_fits_44 : decode cX7_fits 44 = .ok (.iconst (-1), 1) := by decide +kernel
theorem dX7_fits_45 : decode cX7_fits 45 = .ok (.ixor, 1) := by decide +kernel
theorem dX7_fits_46 : decode cX7_fits 46 = .ok (.iand, 1) := by decide +kernel
theorem dX7_fits_47 : decode cX7_fits 47 = .ok (.istore 7, 2) := by decide +kernel
theorem dX7_fits_49 : decode cX7_fits 49 = .ok (.iload 7, 2) := by decide +kernel
theorem dX7_fits_51 : decode cX7_fits 51 = .ok (.invokestatic 38, 3) := by decide +kernel
theorem dX7_fits_54 : decode cX7_fits 54 = .ok (.iconst 1, 1) := by decide +kernel
theorem dX7_fits_55 : decode cX7_fits 55 = .ok (.if_icmp .ne 10, 3) := by decide +kernel
theorem dX7_fits_58 : decode cX7_fits 58 = .ok (.iload 5, 2) := by decide +kernel
theorem dX7_fits_60 : decode cX7_fits 60 = .ok (.iload 7, 2) := by decide +kernel
theorem dX7_fits_62 : decode cX7_fits 62 = .ok (.ior, 1) := by decide +kernel
theorem dX7_fits_63 : decode cX7_fits 63 = .ok (.istore 5, 2) := by decide +kernel
theorem dX7_fits_65 : decode cX7_fits 65 = .ok (.iinc 6 1, 3) := by decide +kernel
theorem dX7_fits_68 : decode cX7_fits 68 = .ok (.goto (-43), 3) := by decide +kernel
theorem dX7_fits_71 : decode cX7_fits 71 = .ok (.iconst 0, 1) := by decide +kernel
theorem dX7_fits_72 : decode cX7_fits 72 = .ok (.istore 6, 2) := by decide +kernel
theorem dX7_fits_74 : decode cX7_fits 74 = .ok (.iload 6, 2) := by decide +kernel
theorem dX7_fits_76 : decode cX7_fits 76 = .ok (.iload_n 3, 1) := by decide +kernel
theorem dX7_fits_77 : decode cX7_fits 77 = .ok (.if_icmp .ge 37, 3) := by decide +kernel
theorem dX7_fits_80 : decode cX7_fits 80 = .ok (.iload 4, 2) := by decide +kernel
theorem dX7_fits_82 : decode cX7_fits 82 = .ok (.aload_n 0, 1) := by decide +kernel
theorem dX7_fits_83 : decode cX7_fits 83 = .ok (.aload_n 1, 1) := by decide +kernel
theorem dX7_fits_84 : decode cX7_fits 84 = .ok (.iload_n 2, 1) := by decide +kernel
theorem dX7_fits_85 : decode cX7_fits 85 = .ok (.iload 6, 2) := by decide +kernel
theorem dX7_fits_87 : decode cX7_fits 87 = .ok (.invokevirtual 63, 3) := by decide +kernel
theorem dX7_fits_90 : decode cX7_fits 90 = .ok (.invokevirtual 69, 3) := by decide +kernel
theorem dX7_fits_93 : decode cX7_fits 93 = .ok (.iconst (-1), 1) := by decide +kernel
theorem dX7_fits_94 : decode cX7_fits 94 = .ok (.ixor, 1) := by decide +kernel
theorem dX7_fits_95 : decode cX7_fits 95 = .ok (.iand, 1) := by decide +kernel
theorem dX7_fits_96 : decode cX7_fits 96 = .ok (.istore 7, 2) := by decide +kernel
theorem dX7_fits_98 : decode cX7_fits 98 = .ok (.iload 7, 2) := by decide +kernel
theorem dX7_fits_100 : decode cX7_fits 100 = .ok (.iload 5, 2) := by decide +kernel
theorem dX7_fits_102 : decode cX7_fits 102 = .ok (.iand, 1) := by decide +kernel
theorem dX7_fits_103 : decode cX7_fits 103 = .ok (.ifCond .ne 5, 3) := by decide +kernel
theorem dX7_fits_106 : decode cX7_fits 106 = .ok (.iconst 0, 1) := by decide +kernel
theorem dX7_fits_107 : decode cX7_fits 107 = .ok (.ireturn, 1) := by decide +kernel
theorem dX7_fits_108 : decode cX7_fits 108 = .ok (.iinc 6 1, 3) := by decide +kernel
theorem dX7_fits_111 : decode cX7_fits 111 = .ok (.goto (-37), 3) := by decide +kernel
theorem dX7_fits_114 : decode cX7_fits 114 = .ok (.iconst 1, 1) := by decide +kernel
theorem dX7_fits_115 : decode cX7_fits 115 = .ok (.ireturn, 1) := by decide +kernel
