/-! decode rows -/
theorem dX8_init_0 : decode cX8_init 0 = .ok (.aload_n 0, 1) := by decide +kernel
theorem dX8_init_1 : decode cX8_init 1 = .ok (.invokespecial 3, 3) := by decide +kernel
theorem dX8_init_4 : decode cX8_init 4 = .ok (.aload_n 0, 1) := by decide +kernel
theorem dX8_init_5 : decode cX8_init 5 = .ok (.new 9, 3) := by decide +kernel
theorem dX8_init_8 : decode cX8_init 8 = .ok (.dup, 1) := by decide +kernel
theorem dX8_init_9 : decode cX8_init 9 = .ok (.invokespecial 11, 3) := by decide +kernel
theorem dX8_init_12 : decode cX8_init 12 = .ok (.putfield 12, 3) := by decide +kernel
theorem dX8_init_15 : decode cX8_init 15 = .ok (.aload_n 0, 1) := by decide +kernel
theorem dX8_init_16 : decode cX8_init 16 = .ok (.new 9, 3) := by decide +kernel
theorem dX8_init_19 : decode cX8_init 19 = .ok (.dup, 1) := by decide +kernel
theorem dX8_init_20 : decode cX8_init 20 = .ok (.invokespecial 11, 3) := by decide +kernel
theorem dX8_init_23 : decode cX8_init 23 = .ok (.putfield 18, 3) := by decide +kernel
theorem dX8_init_26 : decode cX8_init 26 = .ok (.aload_n 0, 1) := by decide +kernel
theorem dX8_init_27 : decode cX8_init 27 = .ok (.sipush 256, 3) := by decide +kernel
theorem dX8_init_30 : decode cX8_init 30 = .ok (.newarray .int, 2) := by decide +kernel
theorem dX8_init_32 : decode cX8_init 32 = .ok (.putfield 21, 3) := by decide +kernel
theorem dX8_init_35 : decode cX8_init 35 = .ok (.aload_n 0, 1) := by decide +kernel
theorem dX8_init_36 : decode cX8_init 36 = .ok (.new 25, 3) := by decide +kernel
theorem dX8_init_39 : decode cX8_init 39 = .ok (.dup, 1) := by decide +kernel
theorem dX8_init_40 : decode cX8_init 40 = .ok (.invokespecial 27, 3) := by decide +kernel
theorem dX8_init_43 : decode cX8_init 43 = .ok (.putfield 28, 3) := by decide +kernel
theorem dX8_init_46 : decode cX8_init 46 = .ok (.aload_n 0, 1) := by decide +kernel
theorem dX8_init_47 : decode cX8_init 47 = .ok (.new 32, 3) := by decide +kernel
theorem dX8_init_50 : decode cX8_init 50 = .ok (.dup, 1) := by decide +kernel
theorem dX8_init_51 : decode cX8_init 51 = .ok (.invokespecial 34, 3) := by decide +kernel
theorem dX8_init_54 : decode cX8_init 54 = .ok (.putfield 35, 3) := by decide +kernel
theorem dX8_init_57 : decode cX8_init 57 = .ok (.aload_n 0, 1) := by decide +kernel
theorem dX8_init_58 : decode cX8_init 58 = .ok (.new 9, 3) := by decide +kernel
theorem dX8_init_61 : decode cX8_init 61 = .ok (.dup, 1) := by decide +kernel
theorem dX8_init_62 : decode cX8_init 62 = .ok (.invokespecial 11, 3) := by decide +kernel
theorem dX8_init_65 : decode cX8_init 65 = .ok (.putfield 39, 3) := by decide +kernel
theorem dX8_init_68 : decode cX8_init 68 = .ok (.aload_n 0, 1) := by decide +kernel
theorem dX8_init_69 : decode cX8_init 69 = .ok (.new 42, 3) := by decide +kernel
theorem dX8_init_72 : decode cX8_init 72 = .ok (.dup, 1) := by decide +kernel
theorem dX8_init_73 : decode cX8_init 73 = .ok (.invokespecial 44, 3) := by decide +kernel
theorem dX8_init_76 : decode cX8_init 76 = .ok (.putfield 45, 3) := by decide +kernel
theorem dX8_init_79 : decode cX8_init 79 = .ok (.aload_n 0, 1) := by decide +kernel
theorem dX8_init_80 : decode cX8_init 80 = .ok (.new 49, 3) := by decide +kernel
theorem dX8_init_83 : decode cX8_init 83 = .ok (.dup, 1) := by decide +kernel
theorem dX8_init_84 : decode cX8_init 84 = .ok (.invokespecial 51, 3) := by decide +kernel
theorem dX8_init_87 : decode cX8_init 87 = .ok (.putfield 52, 3) := by decide +kernel
theorem dX8_init_90 : decode cX8_init 90 = .ok (.aload_n 0, 1) := by decide +kernel
theorem dX8_init_91 : decode cX8_init 91 = .ok (.new 56, 3) := by decide +kernel
theorem dX8_init_94 : decode cX8_init 94 = .ok (.dup, 1) := by decide +kernel
theorem dX8_init_95 : decode cX8_init 95 = .ok (.invokespecial 58, 3) := by decide +kernel
theorem dX8_init_98 : decode cX8_init 98 = .ok (.putfield 59, 3) := by decide +kernel
theorem dX8_init_101 : decode cX8_init 101 = .ok (.aload_n 0, 1) := by decide +kernel
theorem dX8_init_102 : decode cX8_init 102 = .ok (.new 63, 3) := by decide +kernel
theorem dX8_init_105 : decode cX8_init 105 = .ok (.dup, 1) := by decide +kernel
theorem dX8_init_106 : decode cX8_init 106 = .ok (.invokespecial 65, 3) := by decide +kernel
theorem dX8_init_109 : decode cX8_init 109 = .ok (.putfield 66, 3) := by decide +kernel
theorem dX8_init_112 : decode cX8_init 112 = .ok (.aload_n 0, 1) := by decide +kernel
theorem dX8_init_113 : decode cX8_init 113 = .ok (.new 70, 3) := by decide +kernel
theorem dX8_init_116 : decode cX8_init 116 = .ok (.dup, 1) := by decide +kernel
theorem dX8_init_117 : decode cX8_init 117 = .ok (.invokespecial 72, 3) := by decide +kernel
theorem dX8_init_120 : decode cX8_init 120 = .ok (.putfield 73, 3) := by decide +kernel
theorem dX8_init_123 : decode cX8_init 123 = .ok (.aload_n 0, 1) := by decide +kernel
theorem dX8_init_124 : decode cX8_init 124 = .ok (.sipush 349, 3) := by decide +kernel
theorem dX8_init_127 : decode cX8_init 127 = .ok (.newarray .byte, 2) := by decide +kernel
theorem dX8_init_129 : decode cX8_init 129 = .ok (.putfield 77, 3) := by decide +kernel
theorem dX8_init_132 : decode cX8_init 132 = .ok (.return_, 1) := by decide +kernel
theorem dX8_bodies_0 : decode cX8_bodies 0 = .ok (.iload_n 1, 1) := by decide +kernel
theorem dX8_bodies_1 : decode cX8_bodies 1 = .ok (.iconst 3, 1) := by decide +kernel
theorem dX8_bodies_2 : decode cX8_bodies 2 = .ok (.if_icmp .eq 11, 3) := by decide +kernel
theorem dX8_bodies_5 : decode cX8_bodies 5 = .ok (.iload_n 1, 1) := by decide +kernel
theorem dX8_bodies_6 : decode cX8_bodies 6 = .ok (.iconst 4, 1) := by decide +kernel
theorem dX8_bodies_7 : decode cX8_bodies 7 = .ok (.if_icmp .eq 6, 3) := by decide +kernel
theorem dX8_bodies_10 : decode cX8_bodies 10 = .ok (.bipush (-2), 2) := by decide +kernel
theorem dX8_bodies_12 : decode cX8_bodies 12 = .ok (.ireturn, 1) := by decide +kernel
theorem dX8_bodies_13 : decode cX8_bodies 13 = .ok (.aload_n 0, 1) := by decide +kernel
theorem dX8_bodies_14 : decode cX8_bodies 14 = .ok (.getfield 12, 3) := by decide +kernel
theorem dX8_bodies_17 : decode cX8_bodies 17 = .ok (.getfield 81, 3) := by decide +kernel
theorem dX8_bodies_20 : decode cX8_bodies 20 = .ok (.istore_n 2, 1) := by decide +kernel
theorem dX8_bodies_21 : decode cX8_bodies 21 = .ok (.aload_n 0, 1) := by decide +kernel
theorem dX8_bodies_22 : decode cX8_bodies 22 = .ok (.getfield 12, 3) := by decide +kernel
theorem dX8_bodies_25 : decode cX8_bodies 25 = .ok (.iload_n 1, 1) := by decide +kernel
theorem dX8_bodies_26 : decode cX8_bodies 26 = .ok (.invokevirtual 85, 3) := by decide +kernel
theorem dX8_bodies_29 : decode cX8_bodies 29 = .ok (.aload_n 0, 1) := by decide +kernel
theorem dX8_bodies_30 : decode cX8_bodies 30 = .ok (.getfield 28, 3) := by decide +kernel
theorem dX8_bodies_33 : decode cX8_bodies 33 = .ok (.invokevirtual 89, 3) := by decide +kernel
theorem dX8_bodies_36 : decode cX8_bodies 36 = .ok (.iload_n 2, 1) := by decide +kernel
theorem dX8_bodies_37 : decode cX8_bodies 37 = .ok (.ireturn, 1) := by decide +kernel
theorem dX8_make_0 : decode cX8_make 0 = .ok (.iload_n 1, 1) := by decide +kernel
theorem dX8_make_1 : decode cX8_make 1 = .ok (.ifCond .lt 8, 3) := by decide +kernel
theorem dX8_make_4 : decode cX8_make 4 = .ok (.iload_n 1, 1) := by decide +kernel
theorem dX8_make_5 : decode cX8_make 5 = .ok (.iconst 5, 1) := by decide +kernel
theorem dX8_make_6 : decode cX8_make 6 = .ok (.if_icmp .le 5, 3) := by decide +kernel
theorem dX8_make_9 : decode cX8_make 9 = .ok (.iconst (-1), 1) := by decide +kernel
theorem dX8_make_10 : decode cX8_make 10 = .ok (.ireturn, 1) := by decide +kernel
theorem dX8_make_11 : decode cX8_make 11 = .ok (.aload_n 0, 1) := by decide +kernel
theorem dX8_make_12 : decode cX8_make 12 = .ok (.getfield 28, 3) := by decide +kernel
theorem dX8_make_15 : decode cX8_make 15 = .ok (.aload_n 0, 1) := by decide +kernel
theorem dX8_make_16 : decode cX8_make 16 = .ok (.getfield 12, 3) := by decide +kernel
theorem dX8_make_19 : decode cX8_make 19 = .ok (.invokevirtual 92, 3) := by decide +kernel
theorem dX8_make_22 : decode cX8_make 22 = .ok (.aload_n 0, 1) := by decide +kernel
theorem dX8_make_23 : decode cX8_make 23 = .ok (.getfield 12, 3) := by decide +kernel
theorem dX8_make_26 : decode cX8_make 26 = .ok (.iload_n 1, 1) := by decide +kernel
theorem dX8_make_27 : decode cX8_make 27 = .ok (.invokevirtual 96, 3) := by decide +kernel
theorem dX8_make_30 : decode cX8_make 30 = .ok (.aload_n 0, 1) := by decide +kernel
theorem dX8_make_31 : decode cX8_make 31 = .ok (.getfield 12, 3) := by decide +kernel
theorem dX8_make_34 : decode cX8_make 34 = .ok (.invokevirtual 99, 3) := by decide +kernel
theorem dX8_make_37 : decode cX8_make 37 = .ok (.ireturn, 1) := by decide +kernel
theorem dX8_body_0 : decode cX8_body 0 = .ok (.iload_n 1, 1) := by decide +kernel
theorem dX8_body_1 : decode cX8_body 1 = .ok (.ifCond .lt 24, 3) := by decide +kernel
theorem dX8_body_4 : decode cX8_body 4 = .ok (.iload_n 1, 1) := by decide +kernel
theorem dX8_body_5 : decode cX8_body 5 = .ok (.sipush 256, 3) := by decide +kernel
theorem dX8_body_8 : decode cX8_body 8 = .ok (.if_icmp .ge 17, 3) := by decide +kernel
theorem dX8_body_11 : decode cX8_body 11 = .ok (.iload_n 1, 1) := by decide +kernel
theorem dX8_body_12 : decode cX8_body 12 = .ok (.invokestatic 103, 3) := by decide +kernel
theorem dX8_body_15 : decode cX8_body 15 = .ok (.aload_n 0, 1) := by decide +kernel
theorem dX8_body_16 : decode cX8_body 16 = .ok (.getfield 12, 3) := by decide +kernel
theorem dX8_body_19 : decode cX8_body 19 = .ok (.getfield 81, 3) := by decide +kernel
theorem dX8_body_22 : decode cX8_body 22 = .ok (.if_icmp .eq 5, 3) := by decide +kernel
theorem dX8_body_25 : decode cX8_body 25 = .ok (.iconst (-1), 1) := by decide +kernel
theorem dX8_body_26 : decode cX8_body 26 = .ok (.ireturn, 1) := by decide +kernel
theorem dX8_body_27 : decode cX8_body 27 = .ok (.aload_n 0, 1) := by decide +kernel
theorem dX8_body_28 : decode cX8_body 28 = .ok (.getfield 28, 3) := by decide +kernel
theorem dX8_body_31 : decode cX8_body 31 = .ok (.aload_n 0, 1) := by decide +kernel
theorem dX8_body_32 : decode cX8_body 32 = .ok (.getfield 12, 3) := by decide +kernel
theorem dX8_body_35 : decode cX8_body 35 = .ok (.invokevirtual 92, 3) := by decide +kernel
theorem dX8_body_38 : decode cX8_body 38 = .ok (.aload_n 0, 1) := by decide +kernel
theorem dX8_body_39 : decode cX8_body 39 = .ok (.getfield 12, 3) := by decide +kernel
theorem dX8_body_42 : decode cX8_body 42 = .ok (.iload_n 1, 1) := by decide +kernel
theorem dX8_body_43 : decode cX8_body 43 = .ok (.invokevirtual 109, 3) := by decide +kernel
theorem dX8_body_46 : decode cX8_body 46 = .ok (.aload_n 0, 1) := by decide +kernel
theorem dX8_body_47 : decode cX8_body 47 = .ok (.getfield 12, 3) := by decide +kernel
theorem dX8_body_50 : decode cX8_body 50 = .ok (.invokevirtual 99, 3) := by decide +kernel
theorem dX8_body_53 : decode cX8_body 53 = .ok (.ireturn, 1) := by decide +kernel
theorem dX8_bodyOf_0 : decode cX8_bodyOf 0 = .ok (.iload_n 1, 1) := by decide +kernel
theorem dX8_bodyOf_1 : decode cX8_bodyOf 1 = .ok (.ifCond .ge 5, 3) := by decide +kernel
theorem dX8_bodyOf_4 : decode cX8_bodyOf 4 = .ok (.iconst (-1), 1) := by decide +kernel
theorem dX8_bodyOf_5 : decode cX8_bodyOf 5 = .ok (.ireturn, 1) := by decide +kernel
theorem dX8_bodyOf_6 : decode cX8_bodyOf 6 = .ok (.aload_n 0, 1) := by decide +kernel
theorem dX8_bodyOf_7 : decode cX8_bodyOf 7 = .ok (.getfield 12, 3) := by decide +kernel
theorem dX8_bodyOf_10 : decode cX8_bodyOf 10 = .ok (.aload_n 0, 1) := by decide +kernel
theorem dX8_bodyOf_11 : decode cX8_bodyOf 11 = .ok (.getfield 12, 3) := by decide +kernel
theorem dX8_bodyOf_14 : decode cX8_bodyOf 14 = .ok (.getfield 81, 3) := by decide +kernel
theorem dX8_bodyOf_17 : decode cX8_bodyOf 17 = .ok (.iconst 1, 1) := by decide +kernel
theorem dX8_bodyOf_18 : decode cX8_bodyOf 18 = .ok (.iload_n 1, 1) := by decide +kernel
theorem dX8_bodyOf_19 : decode cX8_bodyOf 19 = .ok (.invokevirtual 112, 3) := by decide +kernel
theorem dX8_bodyOf_22 : decode cX8_bodyOf 22 = .ok (.ireturn, 1) := by decide +kernel
theorem dX8_heap_0 : decode cX8_heap 0 = .ok (.iload_n 1, 1) := by decide +kernel
theorem dX8_heap_1 : decode cX8_heap 1 = .ok (.tableswitch 138 0 7 #[47, 55, 63, 71, 79, 95, 106, 118], 47) := by decide +kernel
theorem dX8_heap_48 : decode cX8_heap 48 = .ok (.aload_n 0, 1) := by decide +kernel
theorem dX8_heap_49 : decode cX8_heap 49 = .ok (.getfield 12, 3) := by decide +kernel
theorem dX8_heap_52 : decode cX8_heap 52 = .ok (.getfield 81, 3) := by decide +kernel
theorem dX8_heap_55 : decode cX8_heap 55 = .ok (.ireturn, 1) := by decide +kernel
theorem dX8_heap_56 : decode cX8_heap 56 = .ok (.aload_n 0, 1) := by decide +kernel
theorem dX8_heap_57 : decode cX8_heap 57 = .ok (.getfield 12, 3) := by decide +kernel
theorem dX8_heap_60 : decode cX8_heap 60 = .ok (.invokevirtual 99, 3) := by decide +kernel
theorem dX8_heap_63 : decode cX8_heap 63 = .ok (.ireturn, 1) := by decide +kernel
theorem dX8_heap_64 : decode cX8_heap 64 = .ok (.aload_n 0, 1) := by decide +kernel
theorem dX8_heap_65 : decode cX8_heap 65 = .ok (.getfield 12, 3) := by decide +kernel
theorem dX8_heap_68 : decode cX8_heap 68 = .ok (.invokevirtual 116, 3) := by decide +kernel
theorem dX8_heap_71 : decode cX8_heap 71 = .ok (.ireturn, 1) := by decide +kernel
theorem dX8_heap_72 : decode cX8_heap 72 = .ok (.aload_n 0, 1) := by decide +kernel
theorem dX8_heap_73 : decode cX8_heap 73 = .ok (.getfield 12, 3) := by decide +kernel
theorem dX8_heap_76 : decode cX8_heap 76 = .ok (.invokevirtual 119, 3) := by decide +kernel
theorem dX8_heap_79 : decode cX8_heap 79 = .ok (.ireturn, 1) := by decide +kernel
theorem dX8_heap_80 : decode cX8_heap 80 = .ok (.aload_n 0, 1) := by decide +kernel
theorem dX8_heap_81 : decode cX8_heap 81 = .ok (.getfield 12, 3) := by decide +kernel
theorem dX8_heap_84 : decode cX8_heap 84 = .ok (.invokevirtual 122, 3) := by decide +kernel
theorem dX8_heap_87 : decode cX8_heap 87 = .ok (.ifCond .eq 7, 3) := by decide +kernel
theorem dX8_heap_90 : decode cX8_heap 90 = .ok (.iconst 1, 1) := by decide +kernel
theorem dX8_heap_91 : decode cX8_heap 91 = .ok (.goto 4, 3) := by decide +kernel
theorem dX8_heap_94 : decode cX8_heap 94 = .ok (.iconst 0, 1) := by decide +kernel
theorem dX8_heap_95 : decode cX8_heap 95 = .ok (.ireturn, 1) := by decide +kernel
theorem dX8_heap_96 : decode cX8_heap 96 = .ok (.bipush 100, 2) := by decide +kernel
theorem dX8_heap_98 : decode cX8_heap 98 = .ok (.aload_n 0, 1) := by decide +kernel
theorem dX8_heap_99 : decode cX8_heap 99 = .ok (.getfield 12, 3) := by decide +kernel
theorem dX8_heap_102 : decode cX8_heap 102 = .ok (.invokevirtual 126, 3) := by decide +kernel
theorem dX8_heap_105 : decode cX8_heap 105 = .ok (.iadd, 1) := by decide +kernel
theorem dX8_heap_106 : decode cX8_heap 106 = .ok (.ireturn, 1) := by decide +kernel
theorem dX8_heap_107 : decode cX8_heap 107 = .ok (.aload_n 0, 1) := by decide +kernel
theorem dX8_heap_108 : decode cX8_heap 108 = .ok (.getfield 45, 3) := by decide +kernel
theorem dX8_heap_111 : decode cX8_heap 111 = .ok (.aload_n 0, 1) := by decide +kernel
theorem dX8_heap_112 : decode cX8_heap 112 = .ok (.getfield 12, 3) := by decide +kernel
theorem dX8_heap_115 : decode cX8_heap 115 = .ok (.invokevirtual 129, 3) := by decide +kernel
theorem dX8_heap_118 : decode cX8_heap 118 = .ok (.ireturn, 1) := by decide +kernel
theorem dX8_heap_119 : decode cX8_heap 119 = .ok (.aload_n 0, 1) := by decide +kernel
theorem dX8_heap_120 : decode cX8_heap 120 = .ok (.getfield 45, 3) := by decide +kernel
theorem dX8_heap_123 : decode cX8_heap 123 = .ok (.aload_n 0, 1) := by decide +kernel
theorem dX8_heap_124 : decode cX8_heap 124 = .ok (.getfield 12, 3) := by decide +kernel
theorem dX8_heap_127 : decode cX8_heap 127 = .ok (.invokevirtual 133, 3) := by decide +kernel
theorem dX8_heap_130 : decode cX8_heap 130 = .ok (.ifCond .eq 7, 3) := by decide +kernel
theorem dX8_heap_133 : decode cX8_heap 133 = .ok (.iconst 1, 1) := by decide +kernel
theorem dX8_heap_134 : decode cX8_heap 134 = .ok (.goto 4, 3) := by decide +kernel
theorem dX8_heap_137 : decode cX8_heap 137 = .ok (.iconst 0, 1) := by decide +kernel
theorem dX8_heap_138 : decode cX8_heap 138 = .ok (.ireturn, 1) := by decide +kernel
theorem dX8_heap_139 : decode cX8_heap 139 = .ok (.iconst (-1), 1) := by decide +kernel
theorem dX8_heap_140 : decode cX8_heap 140 = .ok (.ireturn, 1) := by decide +kernel
theorem dX8_faces_0 : decode cX8_faces 0 = .ok (.iload_n 1, 1) := by decide +kernel
theorem dX8_faces_1 : decode cX8_faces 1 = .ok (.iconst 1, 1) := by decide +kernel
theorem dX8_faces_2 : decode cX8_faces 2 = .ok (.if_icmp .lt 8, 3) := by decide +kernel
theorem dX8_faces_5 : decode cX8_faces 5 = .ok (.iload_n 1, 1) := by decide +kernel
theorem dX8_faces_6 : decode cX8_faces 6 = .ok (.iconst 4, 1) := by decide +kernel
theorem dX8_faces_7 : decode cX8_faces 7 = .ok (.if_icmp .le 6, 3) := by decide +kernel
theorem dX8_faces_10 : decode cX8_faces 10 = .ok (.bipush (-2), 2) := by decide +kernel
theorem dX8_faces_12 : decode cX8_faces 12 = .ok (.ireturn, 1) := by decide +kernel
theorem dX8_faces_13 : decode cX8_faces 13 = .ok (.aload_n 0, 1) := by decide +kernel
theorem dX8_faces_14 : decode cX8_faces 14 = .ok (.getfield 12, 3) := by decide +kernel
theorem dX8_faces_17 : decode cX8_faces 17 = .ok (.iload_n 1, 1) := by decide +kernel
theorem dX8_faces_18 : decode cX8_faces 18 = .ok (.invokevirtual 137, 3) := by decide +kernel
theorem dX8_faces_21 : decode cX8_faces 21 = .ok (.ireturn, 1) := by decide +kernel
theorem dX8_face_0 : decode cX8_face 0 = .ok (.iload_n 1, 1) := by decide +kernel
theorem dX8_face_1 : decode cX8_face 1 = .ok (.invokestatic 140, 3) := by decide +kernel
theorem dX8_face_4 : decode cX8_face 4 = .ok (.ifCond .ne 5, 3) := by decide +kernel
theorem dX8_face_7 : decode cX8_face 7 = .ok (.iconst (-1), 1) := by decide +kernel
theorem dX8_face_8 : decode cX8_face 8 = .ok (.ireturn, 1) := by decide +kernel
theorem dX8_face_9 : decode cX8_face 9 = .ok (.iload_n 2, 1) := by decide +kernel
theorem dX8_face_10 : decode cX8_face 10 = .ok (.tableswitch 74 0 3 #[30, 47, 56, 65], 30) := by decide +kernel
theorem dX8_face_40 : decode cX8_face 40 = .ok (.aload_n 0, 1) := by decide +kernel
theorem dX8_face_41 : decode cX8_face 41 = .ok (.getfield 12, 3) := by decide +kernel
theorem dX8_face_44 : decode cX8_face 44 = .ok (.iload_n 1, 1) := by decide +kernel
theorem dX8_face_45 : decode cX8_face 45 = .ok (.invokevirtual 144, 3) := by decide +kernel
theorem dX8_face_48 : decode cX8_face 48 = .ok (.ifCond .le 7, 3) := by decide +kernel
theorem dX8_face_51 : decode cX8_face 51 = .ok (.iconst 1, 1) := by decide +kernel
theorem dX8_face_52 : decode cX8_face 52 = .ok (.goto 4, 3) := by decide +kernel
theorem dX8_face_55 : decode cX8_face 55 = .ok (.iconst 0, 1) := by decide +kernel
theorem dX8_face_56 : decode cX8_face 56 = .ok (.ireturn, 1) := by decide +kernel
theorem dX8_face_57 : decode cX8_face 57 = .ok (.aload_n 0, 1) := by decide +kernel
theorem dX8_face_58 : decode cX8_face 58 = .ok (.getfield 12, 3) := by decide +kernel
theorem dX8_face_61 : decode cX8_face 61 = .ok (.iload_n 1, 1) := by decide +kernel
theorem dX8_face_62 : decode cX8_face 62 = .ok (.invokevirtual 144, 3) := by decide +kernel
theorem dX8_face_65 : decode cX8_face 65 = .ok (.ireturn, 1) := by decide +kernel
theorem dX8_face_66 : decode cX8_face 66 = .ok (.aload_n 0, 1) := by decide +kernel
theorem dX8_face_67 : decode cX8_face 67 = .ok (.getfield 12, 3) := by decide +kernel
theorem dX8_face_70 : decode cX8_face 70 = .ok (.iload_n 1, 1) := by decide +kernel
theorem dX8_face_71 : decode cX8_face 71 = .ok (.invokevirtual 147, 3) := by decide +kernel
theorem dX8_face_74 : decode cX8_face 74 = .ok (.ireturn, 1) := by decide +kernel
theorem dX8_face_75 : decode cX8_face 75 = .ok (.aload_n 0, 1) := by decide +kernel
theorem dX8_face_76 : decode cX8_face 76 = .ok (.getfield 12, 3) := by decide +kernel
theorem dX8_face_79 : decode cX8_face 79 = .ok (.iload_n 1, 1) := by decide +kernel
theorem dX8_face_80 : decode cX8_face 80 = .ok (.invokevirtual 150, 3) := by decide +kernel
theorem dX8_face_83 : decode cX8_face 83 = .ok (.ireturn, 1) := by decide +kernel
theorem dX8_face_84 : decode cX8_face 84 = .ok (.iconst (-1), 1) := by decide +kernel
theorem dX8_face_85 : decode cX8_face 85 = .ok (.ireturn, 1) := by decide +kernel
theorem dX8_wall_0 : decode cX8_wall 0 = .ok (.iload_n 1, 1) := by decide +kernel
theorem dX8_wall_1 : decode cX8_wall 1 = .ok (.ifCond .ge 5, 3) := by decide +kernel
theorem dX8_wall_4 : decode cX8_wall 4 = .ok (.iconst (-1), 1) := by decide +kernel
theorem dX8_wall_5 : decode cX8_wall 5 = .ok (.ireturn, 1) := by decide +kernel
theorem dX8_wall_6 : decode cX8_wall 6 = .ok (.aload_n 0, 1) := by decide +kernel
theorem dX8_wall_7 : decode cX8_wall 7 = .ok (.getfield 12, 3) := by decide +kernel
theorem dX8_wall_10 : decode cX8_wall 10 = .ok (.aload_n 0, 1) := by decide +kernel
theorem dX8_wall_11 : decode cX8_wall 11 = .ok (.getfield 12, 3) := by decide +kernel
theorem dX8_wall_14 : decode cX8_wall 14 = .ok (.getfield 81, 3) := by decide +kernel
theorem dX8_wall_17 : decode cX8_wall 17 = .ok (.iconst 1, 1) := by decide +kernel
theorem dX8_wall_18 : decode cX8_wall 18 = .ok (.isub, 1) := by decide +kernel
theorem dX8_wall_19 : decode cX8_wall 19 = .ok (.iconst 1, 1) := by decide +kernel
theorem dX8_wall_20 : decode cX8_wall 20 = .ok (.iload_n 1, 1) := by decide +kernel
theorem dX8_wall_21 : decode cX8_wall 21 = .ok (.invokevirtual 112, 3) := by decide +kernel
theorem dX8_wall_24 : decode cX8_wall 24 = .ok (.ireturn, 1) := by decide +kernel
theorem dX8_apart_0 : decode cX8_apart 0 = .ok (.aload_n 0, 1) := by decide +kernel
theorem dX8_apart_1 : decode cX8_apart 1 = .ok (.getfield 12, 3) := by decide +kernel
theorem dX8_apart_4 : decode cX8_apart 4 = .ok (.invokevirtual 99, 3) := by decide +kernel
theorem dX8_apart_7 : decode cX8_apart 7 = .ok (.istore_n 3, 1) := by decide +kernel
theorem dX8_apart_8 : decode cX8_apart 8 = .ok (.iload_n 1, 1) := by decide +kernel
theorem dX8_apart_9 : decode cX8_apart 9 = .ok (.ifCond .lt 17, 3) := by decide +kernel
theorem dX8_apart_12 : decode cX8_apart 12 = .ok (.iload_n 1, 1) := by decide +kernel
theorem dX8_apart_13 : decode cX8_apart 13 = .ok (.iload_n 3, 1) := by decide +kernel
theorem dX8_apart_14 : decode cX8_apart 14 = .ok (.if_icmp .ge 12, 3) := by decide +kernel
theorem dX8_apart_17 : decode cX8_apart 17 = .ok (.iload_n 2, 1) := by decide +kernel
theorem dX8_apart_18 : decode cX8_apart 18 = .ok (.ifCond .lt 8, 3) := by decide +kernel
theorem dX8_apart_21 : decode cX8_apart 21 = .ok (.iload_n 2, 1) := by decide +kernel
theorem dX8_apart_22 : decode cX8_apart 22 = .ok (.iload_n 3, 1) := by decide +kernel
theorem dX8_apart_23 : decode cX8_apart 23 = .ok (.if_icmp .lt 5, 3) := by decide +kernel
theorem dX8_apart_26 : decode cX8_apart 26 = .ok (.iconst (-1), 1) := by decide +kernel
theorem dX8_apart_27 : decode cX8_apart 27 = .ok (.ireturn, 1) := by decide +kernel
theorem dX8_apart_28 : decode cX8_apart 28 = .ok (.aload_n 0, 1) := by decide +kernel
theorem dX8_apart_29 : decode cX8_apart 29 = .ok (.getfield 45, 3) := by decide +kernel
theorem dX8_apart_32 : decode cX8_apart 32 = .ok (.aload_n 0, 1) := by decide +kernel
theorem dX8_apart_33 : decode cX8_apart 33 = .ok (.getfield 12, 3) := by decide +kernel
theorem dX8_apart_36 : decode cX8_apart 36 = .ok (.iload_n 1, 1) := by decide +kernel
theorem dX8_apart_37 : decode cX8_apart 37 = .ok (.iload_n 2, 1) := by decide +kernel
theorem dX8_apart_38 : decode cX8_apart 38 = .ok (.invokevirtual 153, 3) := by decide +kernel
theorem dX8_apart_41 : decode cX8_apart 41 = .ok (.ireturn, 1) := by decide +kernel
theorem dX8_shelled_0 : decode cX8_shelled 0 = .ok (.aload_n 0, 1) := by decide +kernel
theorem dX8_shelled_1 : decode cX8_shelled 1 = .ok (.getfield 66, 3) := by decide +kernel
theorem dX8_shelled_4 : decode cX8_shelled 4 = .ok (.iload_n 1, 1) := by decide +kernel
theorem dX8_shelled_5 : decode cX8_shelled 5 = .ok (.invokevirtual 157, 3) := by decide +kernel
theorem dX8_shelled_8 : decode cX8_shelled 8 = .ok (.istore_n 2, 1) := by decide +kernel
theorem dX8_shelled_9 : decode cX8_shelled 9 = .ok (.iload_n 2, 1) := by decide +kernel
theorem dX8_shelled_10 : decode cX8_shelled 10 = .ok (.ifCond .ge 5, 3) := by decide +kernel
theorem dX8_shelled_13 : decode cX8_shelled 13 = .ok (.iload_n 2, 1) := by decide +kernel
theorem dX8_shelled_14 : decode cX8_shelled 14 = .ok (.ireturn, 1) := by decide +kernel
theorem dX8_shelled_15 : decode cX8_shelled 15 = .ok (.aload_n 0, 1) := by decide +kernel
theorem dX8_shelled_16 : decode cX8_shelled 16 = .ok (.getfield 45, 3) := by decide +kernel
theorem dX8_shelled_19 : decode cX8_shelled 19 = .ok (.aload_n 0, 1) := by decide +kernel
theorem dX8_shelled_20 : decode cX8_shelled 20 = .ok (.getfield 12, 3) := by decide +kernel
theorem dX8_shelled_23 : decode cX8_shelled 23 = .ok (.invokevirtual 160, 3) := by decide +kernel
theorem dX8_shelled_26 : decode cX8_shelled 26 = .ok (.iconst 0, 1) := by decide +kernel
theorem dX8_shelled_27 : decode cX8_shelled 27 = .ok (.istore_n 3, 1) := by decide +kernel
theorem dX8_shelled_28 : decode cX8_shelled 28 = .ok (.iload_n 3, 1) := by decide +kernel
theorem dX8_shelled_29 : decode cX8_shelled 29 = .ok (.aload_n 0, 1) := by decide +kernel
theorem dX8_shelled_30 : decode cX8_shelled 30 = .ok (.getfield 66, 3) := by decide +kernel
theorem dX8_shelled_33 : decode cX8_shelled 33 = .ok (.iload_n 1, 1) := by decide +kernel
theorem dX8_shelled_34 : decode cX8_shelled 34 = .ok (.invokevirtual 163, 3) := by decide +kernel
theorem dX8_shelled_37 : decode cX8_shelled 37 = .ok (.if_icmp .ge 27, 3) := by decide +kernel
theorem dX8_shelled_40 : decode cX8_shelled 40 = .ok (.aload_n 0, 1) := by decide +kernel
theorem dX8_shelled_41 : decode cX8_shelled 41 = .ok (.getfield 45, 3) := by decide +kernel
theorem dX8_shelled_44 : decode cX8_shelled 44 = .ok (.aload_n 0, 1) := by decide +kernel
theorem dX8_shelled_45 : decode cX8_shelled 45 = .ok (.getfield 66, 3) := by decide +kernel
theorem dX8_shelled_48 : decode cX8_shelled 48 = .ok (.iload_n 1, 1) := by decide +kernel
theorem dX8_shelled_49 : decode cX8_shelled 49 = .ok (.iload_n 3, 1) := by decide +kernel
theorem dX8_shelled_50 : decode cX8_shelled 50 = .ok (.invokevirtual 166, 3) := by decide +kernel
theorem dX8_shelled_53 : decode cX8_shelled 53 = .ok (.ifCond .ne 5, 3) := by decide +kernel
theorem dX8_shelled_56 : decode cX8_shelled 56 = .ok (.iload_n 3, 1) := by decide +kernel
theorem dX8_shelled_57 : decode cX8_shelled 57 = .ok (.ireturn, 1) := by decide +kernel
theorem dX8_shelled_58 : decode cX8_shelled 58 = .ok (.iinc 3 1, 3) := by decide +kernel
theorem dX8_shelled_61 : decode cX8_shelled 61 = .ok (.goto (-33), 3) := by decide +kernel
theorem dX8_shelled_64 : decode cX8_shelled 64 = .ok (.bipush (-5), 2) := by decide +kernel
theorem dX8_shelled_66 : decode cX8_shelled 66 = .ok (.ireturn, 1) := by decide +kernel
theorem dX8_cone_0 : decode cX8_cone 0 = .ok (.iload_n 1, 1) := by decide +kernel
theorem dX8_cone_1 : decode cX8_cone 1 = .ok (.ifCond .lt 9, 3) := by decide +kernel
theorem dX8_cone_4 : decode cX8_cone 4 = .ok (.iload_n 1, 1) := by decide +kernel
theorem dX8_cone_5 : decode cX8_cone 5 = .ok (.bipush 8, 2) := by decide +kernel
theorem dX8_cone_7 : decode cX8_cone 7 = .ok (.if_icmp .lt 5, 3) := by decide +kernel
theorem dX8_cone_10 : decode cX8_cone 10 = .ok (.iconst (-1), 1) := by decide +kernel
theorem dX8_cone_11 : decode cX8_cone 11 = .ok (.ireturn, 1) := by decide +kernel
theorem dX8_cone_12 : decode cX8_cone 12 = .ok (.iconst 1, 1) := by decide +kernel
theorem dX8_cone_13 : decode cX8_cone 13 = .ok (.iload_n 1, 1) := by decide +kernel
theorem dX8_cone_14 : decode cX8_cone 14 = .ok (.ishl, 1) := by decide +kernel
theorem dX8_cone_15 : decode cX8_cone 15 = .ok (.istore_n 2, 1) := by decide +kernel
theorem dX8_cone_16 : decode cX8_cone 16 = .ok (.aload_n 0, 1) := by decide +kernel
theorem dX8_cone_17 : decode cX8_cone 17 = .ok (.getfield 12, 3) := by decide +kernel
theorem dX8_cone_20 : decode cX8_cone 20 = .ok (.iload_n 2, 1) := by decide +kernel
theorem dX8_cone_21 : decode cX8_cone 21 = .ok (.invokevirtual 144, 3) := by decide +kernel
theorem dX8_cone_24 : decode cX8_cone 24 = .ok (.ifCond .le 6, 3) := by decide +kernel
theorem dX8_cone_27 : decode cX8_cone 27 = .ok (.bipush (-3), 2) := by decide +kernel
theorem dX8_cone_29 : decode cX8_cone 29 = .ok (.ireturn, 1) := by decide +kernel
theorem dX8_cone_30 : decode cX8_cone 30 = .ok (.aload_n 0, 1) := by decide +kernel
theorem dX8_cone_31 : decode cX8_cone 31 = .ok (.getfield 28, 3) := by decide +kernel
theorem dX8_cone_34 : decode cX8_cone 34 = .ok (.aload_n 0, 1) := by decide +kernel
theorem dX8_cone_35 : decode cX8_cone 35 = .ok (.getfield 12, 3) := by decide +kernel
theorem dX8_cone_38 : decode cX8_cone 38 = .ok (.invokevirtual 92, 3) := by decide +kernel
theorem dX8_cone_41 : decode cX8_cone 41 = .ok (.aload_n 0, 1) := by decide +kernel
theorem dX8_cone_42 : decode cX8_cone 42 = .ok (.getfield 18, 3) := by decide +kernel
theorem dX8_cone_45 : decode cX8_cone 45 = .ok (.aload_n 0, 1) := by decide +kernel
theorem dX8_cone_46 : decode cX8_cone 46 = .ok (.getfield 12, 3) := by decide +kernel
theorem dX8_cone_49 : decode cX8_cone 49 = .ok (.invokevirtual 170, 3) := by decide +kernel
theorem dX8_cone_52 : decode cX8_cone 52 = .ok (.iconst 1, 1) := by decide +kernel
theorem dX8_cone_53 : decode cX8_cone 53 = .ok (.istore_n 3, 1) := by decide +kernel
theorem dX8_cone_54 : decode cX8_cone 54 = .ok (.iload_n 3, 1) := by decide +kernel
theorem dX8_cone_55 : decode cX8_cone 55 = .ok (.sipush 256, 3) := by decide +kernel
theorem dX8_cone_58 : decode cX8_cone 58 = .ok (.if_icmp .ge 30, 3) := by decide +kernel
theorem dX8_cone_61 : decode cX8_cone 61 = .ok (.aload_n 0, 1) := by decide +kernel
theorem dX8_cone_62 : decode cX8_cone 62 = .ok (.getfield 18, 3) := by decide +kernel
theorem dX8_cone_65 : decode cX8_cone 65 = .ok (.iload_n 3, 1) := by decide +kernel
theorem dX8_cone_66 : decode cX8_cone 66 = .ok (.invokevirtual 173, 3) := by decide +kernel
theorem dX8_cone_69 : decode cX8_cone 69 = .ok (.ifCond .eq 13, 3) := by decide +kernel
theorem dX8_cone_72 : decode cX8_cone 72 = .ok (.aload_n 0, 1) := by decide +kernel
theorem dX8_cone_73 : decode cX8_cone 73 = .ok (.getfield 12, 3) := by decide +kernel
theorem dX8_cone_76 : decode cX8_cone 76 = .ok (.iload_n 3, 1) := by decide +kernel
theorem dX8_cone_77 : decode cX8_cone 77 = .ok (.iload_n 2, 1) := by decide +kernel
theorem dX8_cone_78 : decode cX8_cone 78 = .ok (.ior, 1) := by decide +kernel
theorem dX8_cone_79 : decode cX8_cone 79 = .ok (.invokevirtual 109, 3) := by decide +kernel
theorem dX8_cone_82 : decode cX8_cone 82 = .ok (.iinc 3 1, 3) := by decide +kernel
theorem dX8_cone_85 : decode cX8_cone 85 = .ok (.goto (-31), 3) := by decide +kernel
theorem dX8_cone_88 : decode cX8_cone 88 = .ok (.aload_n 0, 1) := by decide +kernel
theorem dX8_cone_89 : decode cX8_cone 89 = .ok (.getfield 12, 3) := by decide +kernel
theorem dX8_cone_92 : decode cX8_cone 92 = .ok (.invokevirtual 99, 3) := by decide +kernel
theorem dX8_cone_95 : decode cX8_cone 95 = .ok (.ireturn, 1) := by decide +kernel
theorem dX8_flips_0 : decode cX8_flips 0 = .ok (.iload_n 1, 1) := by decide +kernel
theorem dX8_flips_1 : decode cX8_flips 1 = .ok (.ifCond .lt 14, 3) := by decide +kernel
theorem dX8_flips_4 : decode cX8_flips 4 = .ok (.iload_n 1, 1) := by decide +kernel
theorem dX8_flips_5 : decode cX8_flips 5 = .ok (.aload_n 0, 1) := by decide +kernel
theorem dX8_flips_6 : decode cX8_flips 6 = .ok (.getfield 12, 3) := by decide +kernel
theorem dX8_flips_9 : decode cX8_flips 9 = .ok (.getfield 81, 3) := by decide +kernel
theorem dX8_flips_12 : decode cX8_flips 12 = .ok (.if_icmp .le 6, 3) := by decide +kernel
theorem dX8_flips_15 : decode cX8_flips 15 = .ok (.bipush (-2), 2) := by decide +kernel
theorem dX8_flips_17 : decode cX8_flips 17 = .ok (.ireturn, 1) := by decide +kernel
theorem dX8_flips_18 : decode cX8_flips 18 = .ok (.aload_n 0, 1) := by decide +kernel
theorem dX8_flips_19 : decode cX8_flips 19 = .ok (.getfield 12, 3) := by decide +kernel
theorem dX8_flips_22 : decode cX8_flips 22 = .ok (.aload_n 0, 1) := by decide +kernel
theorem dX8_flips_23 : decode cX8_flips 23 = .ok (.getfield 21, 3) := by decide +kernel
theorem dX8_flips_26 : decode cX8_flips 26 = .ok (.invokevirtual 176, 3) := by decide +kernel
theorem dX8_flips_29 : decode cX8_flips 29 = .ok (.istore_n 2, 1) := by decide +kernel
theorem dX8_flips_30 : decode cX8_flips 30 = .ok (.iload_n 1, 1) := by decide +kernel
theorem dX8_flips_31 : decode cX8_flips 31 = .ok (.ifCond .ne 5, 3) := by decide +kernel
theorem dX8_flips_34 : decode cX8_flips 34 = .ok (.iload_n 2, 1) := by decide +kernel
theorem dX8_flips_35 : decode cX8_flips 35 = .ok (.ireturn, 1) := by decide +kernel
theorem dX8_flips_36 : decode cX8_flips 36 = .ok (.iconst 0, 1) := by decide +kernel
theorem dX8_flips_37 : decode cX8_flips 37 = .ok (.istore_n 3, 1) := by decide +kernel
theorem dX8_flips_38 : decode cX8_flips 38 = .ok (.iconst 0, 1) := by decide +kernel
theorem dX8_flips_39 : decode cX8_flips 39 = .ok (.istore 4, 2) := by decide +kernel
theorem dX8_flips_41 : decode cX8_flips 41 = .ok (.iload 4, 2) := by decide +kernel
theorem dX8_flips_43 : decode cX8_flips 43 = .ok (.iload_n 2, 1) := by decide +kernel
theorem dX8_flips_44 : decode cX8_flips 44 = .ok (.if_icmp .ge 30, 3) := by decide +kernel
theorem dX8_flips_47 : decode cX8_flips 47 = .ok (.aload_n 0, 1) := by decide +kernel
theorem dX8_flips_48 : decode cX8_flips 48 = .ok (.getfield 12, 3) := by decide +kernel
theorem dX8_flips_51 : decode cX8_flips 51 = .ok (.aload_n 0, 1) := by decide +kernel
theorem dX8_flips_52 : decode cX8_flips 52 = .ok (.getfield 21, 3) := by decide +kernel
theorem dX8_flips_55 : decode cX8_flips 55 = .ok (.iload 4, 2) := by decide +kernel
theorem dX8_flips_57 : decode cX8_flips 57 = .ok (.iaload, 1) := by decide +kernel
theorem dX8_flips_58 : decode cX8_flips 58 = .ok (.invokevirtual 144, 3) := by decide +kernel
theorem dX8_flips_61 : decode cX8_flips 61 = .ok (.iload_n 1, 1) := by decide +kernel
theorem dX8_flips_62 : decode cX8_flips 62 = .ok (.if_icmp .ne 6, 3) := by decide +kernel
theorem dX8_flips_65 : decode cX8_flips 65 = .ok (.iinc 3 1, 3) := by decide +kernel
theorem dX8_flips_68 : decode cX8_flips 68 = .ok (.iinc 4 1, 3) := by decide +kernel
theorem dX8_flips_71 : decode cX8_flips 71 = .ok (.goto (-30), 3) := by decide +kernel
theorem dX8_flips_74 : decode cX8_flips 74 = .ok (.iload_n 3, 1) := by decide +kernel
theorem dX8_flips_75 : decode cX8_flips 75 = .ok (.ireturn, 1) := by decide +kernel
theorem dX8_flipOf_0 : decode cX8_flipOf 0 = .ok (.aload_n 0, 1) := by decide +kernel
theorem dX8_flipOf_1 : decode cX8_flipOf 1 = .ok (.getfield 12, 3) := by decide +kernel
theorem dX8_flipOf_4 : decode cX8_flipOf 4 = .ok (.aload_n 0, 1) := by decide +kernel
theorem dX8_flipOf_5 : decode cX8_flipOf 5 = .ok (.getfield 21, 3) := by decide +kernel
theorem dX8_flipOf_8 : decode cX8_flipOf 8 = .ok (.invokevirtual 176, 3) := by decide +kernel
theorem dX8_flipOf_11 : decode cX8_flipOf 11 = .ok (.istore_n 3, 1) := by decide +kernel
theorem dX8_flipOf_12 : decode cX8_flipOf 12 = .ok (.iload_n 1, 1) := by decide +kernel
theorem dX8_flipOf_13 : decode cX8_flipOf 13 = .ok (.ifCond .lt 8, 3) := by decide +kernel
theorem dX8_flipOf_16 : decode cX8_flipOf 16 = .ok (.iload_n 1, 1) := by decide +kernel
theorem dX8_flipOf_17 : decode cX8_flipOf 17 = .ok (.iload_n 3, 1) := by decide +kernel
theorem dX8_flipOf_18 : decode cX8_flipOf 18 = .ok (.if_icmp .lt 5, 3) := by decide +kernel
theorem dX8_flipOf_21 : decode cX8_flipOf 21 = .ok (.iconst (-1), 1) := by decide +kernel
theorem dX8_flipOf_22 : decode cX8_flipOf 22 = .ok (.ireturn, 1) := by decide +kernel
theorem dX8_flipOf_23 : decode cX8_flipOf 23 = .ok (.iload_n 2, 1) := by decide +kernel
theorem dX8_flipOf_24 : decode cX8_flipOf 24 = .ok (.tableswitch 63 0 2 #[28, 35, 49], 28) := by decide +kernel
theorem dX8_flipOf_52 : decode cX8_flipOf 52 = .ok (.aload_n 0, 1) := by decide +kernel
theorem dX8_flipOf_53 : decode cX8_flipOf 53 = .ok (.getfield 21, 3) := by decide +kernel
theorem dX8_flipOf_56 : decode cX8_flipOf 56 = .ok (.iload_n 1, 1) := by decide +kernel
theorem dX8_flipOf_57 : decode cX8_flipOf 57 = .ok (.iaload, 1) := by decide +kernel
theorem dX8_flipOf_58 : decode cX8_flipOf 58 = .ok (.ireturn, 1) := by decide +kernel
theorem dX8_flipOf_59 : decode cX8_flipOf 59 = .ok (.aload_n 0, 1) := by decide +kernel
theorem dX8_flipOf_60 : decode cX8_flipOf 60 = .ok (.getfield 12, 3) := by decide +kernel
theorem dX8_flipOf_63 : decode cX8_flipOf 63 = .ok (.aload_n 0, 1) := by decide +kernel
theorem dX8_flipOf_64 : decode cX8_flipOf 64 = .ok (.getfield 21, 3) := by decide +kernel
theorem dX8_flipOf_67 : decode cX8_flipOf 67 = .ok (.iload_n 1, 1) := by decide +kernel
theorem dX8_flipOf_68 : decode cX8_flipOf 68 = .ok (.iaload, 1) := by decide +kernel
theorem dX8_flipOf_69 : decode cX8_flipOf 69 = .ok (.invokevirtual 180, 3) := by decide +kernel
theorem dX8_flipOf_72 : decode cX8_flipOf 72 = .ok (.ireturn, 1) := by decide +kernel
theorem dX8_flipOf_73 : decode cX8_flipOf 73 = .ok (.aload_n 0, 1) := by decide +kernel
theorem dX8_flipOf_74 : decode cX8_flipOf 74 = .ok (.getfield 12, 3) := by decide +kernel
theorem dX8_flipOf_77 : decode cX8_flipOf 77 = .ok (.aload_n 0, 1) := by decide +kernel
theorem dX8_flipOf_78 : decode cX8_flipOf 78 = .ok (.getfield 21, 3) := by decide +kernel
theorem dX8_flipOf_81 : decode cX8_flipOf 81 = .ok (.iload_n 1, 1) := by decide +kernel
theorem dX8_flipOf_82 : decode cX8_flipOf 82 = .ok (.iaload, 1) := by decide +kernel
theorem dX8_flipOf_83 : decode cX8_flipOf 83 = .ok (.invokevirtual 144, 3) := by decide +kernel
theorem dX8_flipOf_86 : decode cX8_flipOf 86 = .ok (.ireturn, 1) := by decide +kernel
theorem dX8_flipOf_87 : decode cX8_flipOf 87 = .ok (.iconst (-1), 1) := by decide +kernel
theorem dX8_flipOf_88 : decode cX8_flipOf 88 = .ok (.ireturn, 1) := by decide +kernel
theorem dX8_number_0 : decode cX8_number 0 = .ok (.iload_n 1, 1) := by decide +kernel
theorem dX8_number_1 : decode cX8_number 1 = .ok (.invokestatic 140, 3) := by decide +kernel
theorem dX8_number_4 : decode cX8_number 4 = .ok (.ifCond .ne 5, 3) := by decide +kernel
theorem dX8_number_7 : decode cX8_number 7 = .ok (.iconst (-1), 1) := by decide +kernel
theorem dX8_number_8 : decode cX8_number 8 = .ok (.ireturn, 1) := by decide +kernel
theorem dX8_number_9 : decode cX8_number 9 = .ok (.aload_n 0, 1) := by decide +kernel
theorem dX8_number_10 : decode cX8_number 10 = .ok (.getfield 12, 3) := by decide +kernel
theorem dX8_number_13 : decode cX8_number 13 = .ok (.iload_n 1, 1) := by decide +kernel
theorem dX8_number_14 : decode cX8_number 14 = .ok (.invokevirtual 183, 3) := by decide +kernel
theorem dX8_number_17 : decode cX8_number 17 = .ok (.ireturn, 1) := by decide +kernel
theorem dX8_flip_0 : decode cX8_flip 0 = .ok (.aload_n 0, 1) := by decide +kernel
theorem dX8_flip_1 : decode cX8_flip 1 = .ok (.getfield 12, 3) := by decide +kernel
theorem dX8_flip_4 : decode cX8_flip 4 = .ok (.aload_n 0, 1) := by decide +kernel
theorem dX8_flip_5 : decode cX8_flip 5 = .ok (.getfield 21, 3) := by decide +kernel
theorem dX8_flip_8 : decode cX8_flip 8 = .ok (.invokevirtual 176, 3) := by decide +kernel
theorem dX8_flip_11 : decode cX8_flip 11 = .ok (.istore_n 2, 1) := by decide +kernel
theorem dX8_flip_12 : decode cX8_flip 12 = .ok (.iload_n 1, 1) := by decide +kernel
theorem dX8_flip_13 : decode cX8_flip 13 = .ok (.ifCond .lt 8, 3) := by decide +kernel
theorem dX8_flip_16 : decode cX8_flip 16 = .ok (.iload_n 1, 1) := by decide +kernel
theorem dX8_flip_17 : decode cX8_flip 17 = .ok (.iload_n 2, 1) := by decide +kernel
theorem dX8_flip_18 : decode cX8_flip 18 = .ok (.if_icmp .lt 5, 3) := by decide +kernel
theorem dX8_flip_21 : decode cX8_flip 21 = .ok (.iconst (-1), 1) := by decide +kernel
theorem dX8_flip_22 : decode cX8_flip 22 = .ok (.ireturn, 1) := by decide +kernel
theorem dX8_flip_23 : decode cX8_flip 23 = .ok (.aload_n 0, 1) := by decide +kernel
theorem dX8_flip_24 : decode cX8_flip 24 = .ok (.getfield 28, 3) := by decide +kernel
theorem dX8_flip_27 : decode cX8_flip 27 = .ok (.aload_n 0, 1) := by decide +kernel
theorem dX8_flip_28 : decode cX8_flip 28 = .ok (.getfield 12, 3) := by decide +kernel
theorem dX8_flip_31 : decode cX8_flip 31 = .ok (.invokevirtual 92, 3) := by decide +kernel
theorem dX8_flip_34 : decode cX8_flip 34 = .ok (.aload_n 0, 1) := by decide +kernel
theorem dX8_flip_35 : decode cX8_flip 35 = .ok (.getfield 12, 3) := by decide +kernel
theorem dX8_flip_38 : decode cX8_flip 38 = .ok (.aload_n 0, 1) := by decide +kernel
theorem dX8_flip_39 : decode cX8_flip 39 = .ok (.getfield 21, 3) := by decide +kernel
theorem dX8_flip_42 : decode cX8_flip 42 = .ok (.iload_n 1, 1) := by decide +kernel
theorem dX8_flip_43 : decode cX8_flip 43 = .ok (.iaload, 1) := by decide +kernel
theorem dX8_flip_44 : decode cX8_flip 44 = .ok (.invokevirtual 186, 3) := by decide +kernel
theorem dX8_flip_47 : decode cX8_flip 47 = .ok (.aload_n 0, 1) := by decide +kernel
theorem dX8_flip_48 : decode cX8_flip 48 = .ok (.getfield 12, 3) := by decide +kernel
theorem dX8_flip_51 : decode cX8_flip 51 = .ok (.invokevirtual 99, 3) := by decide +kernel
theorem dX8_flip_54 : decode cX8_flip 54 = .ok (.ireturn, 1) := by decide +kernel
theorem dX8_other_0 : decode cX8_other 0 = .ok (.iload_n 1, 1) := by decide +kernel
theorem dX8_other_1 : decode cX8_other 1 = .ok (.invokestatic 140, 3) := by decide +kernel
theorem dX8_other_4 : decode cX8_other 4 = .ok (.ifCond .ne 5, 3) := by decide +kernel
theorem dX8_other_7 : decode cX8_other 7 = .ok (.iconst (-1), 1) := by decide +kernel
theorem dX8_other_8 : decode cX8_other 8 = .ok (.ireturn, 1) := by decide +kernel
theorem dX8_other_9 : decode cX8_other 9 = .ok (.aload_n 0, 1) := by decide +kernel
theorem dX8_other_10 : decode cX8_other 10 = .ok (.getfield 12, 3) := by decide +kernel
theorem dX8_other_13 : decode cX8_other 13 = .ok (.iload_n 1, 1) := by decide +kernel
theorem dX8_other_14 : decode cX8_other 14 = .ok (.invokevirtual 180, 3) := by decide +kernel
theorem dX8_other_17 : decode cX8_other 17 = .ok (.istore_n 2, 1) := by decide +kernel
theorem dX8_other_18 : decode cX8_other 18 = .ok (.iload_n 2, 1) := by decide +kernel
theorem dX8_other_19 : decode cX8_other 19 = .ok (.ifCond .ne 6, 3) := by decide +kernel
theorem dX8_other_22 : decode cX8_other 22 = .ok (.bipush (-5), 2) := by decide +kernel
theorem dX8_other_24 : decode cX8_other 24 = .ok (.ireturn, 1) := by decide +kernel
theorem dX8_other_25 : decode cX8_other 25 = .ok (.aload_n 0, 1) := by decide +kernel
theorem dX8_other_26 : decode cX8_other 26 = .ok (.getfield 18, 3) := by decide +kernel
theorem dX8_other_29 : decode cX8_other 29 = .ok (.aload_n 0, 1) := by decide +kernel
theorem dX8_other_30 : decode cX8_other 30 = .ok (.getfield 12, 3) := by decide +kernel
theorem dX8_other_33 : decode cX8_other 33 = .ok (.invokevirtual 170, 3) := by decide +kernel
theorem dX8_other_36 : decode cX8_other 36 = .ok (.aload_n 0, 1) := by decide +kernel
theorem dX8_other_37 : decode cX8_other 37 = .ok (.getfield 18, 3) := by decide +kernel
theorem dX8_other_40 : decode cX8_other 40 = .ok (.iload_n 1, 1) := by decide +kernel
theorem dX8_other_41 : decode cX8_other 41 = .ok (.invokevirtual 186, 3) := by decide +kernel
theorem dX8_other_44 : decode cX8_other 44 = .ok (.aload_n 0, 1) := by decide +kernel
theorem dX8_other_45 : decode cX8_other 45 = .ok (.getfield 18, 3) := by decide +kernel
theorem dX8_other_48 : decode cX8_other 48 = .ok (.iload_n 2, 1) := by decide +kernel
theorem dX8_other_49 : decode cX8_other 49 = .ok (.invokevirtual 180, 3) := by decide +kernel
theorem dX8_other_52 : decode cX8_other 52 = .ok (.iload_n 1, 1) := by decide +kernel
theorem dX8_other_53 : decode cX8_other 53 = .ok (.if_icmp .ne 14, 3) := by decide +kernel
theorem dX8_other_56 : decode cX8_other 56 = .ok (.aload_n 0, 1) := by decide +kernel
theorem dX8_other_57 : decode cX8_other 57 = .ok (.getfield 18, 3) := by decide +kernel
theorem dX8_other_60 : decode cX8_other 60 = .ok (.iload_n 2, 1) := by decide +kernel
theorem dX8_other_61 : decode cX8_other 61 = .ok (.invokevirtual 183, 3) := by decide +kernel
theorem dX8_other_64 : decode cX8_other 64 = .ok (.goto 5, 3) := by decide +kernel
theorem dX8_other_67 : decode cX8_other 67 = .ok (.bipush (-5), 2) := by decide +kernel
theorem dX8_other_69 : decode cX8_other 69 = .ok (.ireturn, 1) := by decide +kernel
theorem dX8_plan_0 : decode cX8_plan 0 = .ok (.aload_n 0, 1) := by decide +kernel
theorem dX8_plan_1 : decode cX8_plan 1 = .ok (.getfield 66, 3) := by decide +kernel
theorem dX8_plan_4 : decode cX8_plan 4 = .ok (.iload_n 1, 1) := by decide +kernel
theorem dX8_plan_5 : decode cX8_plan 5 = .ok (.invokevirtual 189, 3) := by decide +kernel
theorem dX8_plan_8 : decode cX8_plan 8 = .ok (.ifCond .eq 12, 3) := by decide +kernel
theorem dX8_plan_11 : decode cX8_plan 11 = .ok (.iload_n 2, 1) := by decide +kernel
theorem dX8_plan_12 : decode cX8_plan 12 = .ok (.ifCond .lt 8, 3) := by decide +kernel
theorem dX8_plan_15 : decode cX8_plan 15 = .ok (.iload_n 2, 1) := by decide +kernel
theorem dX8_plan_16 : decode cX8_plan 16 = .ok (.iconst 2, 1) := by decide +kernel
theorem dX8_plan_17 : decode cX8_plan 17 = .ok (.if_icmp .le 5, 3) := by decide +kernel
theorem dX8_plan_20 : decode cX8_plan 20 = .ok (.iconst (-1), 1) := by decide +kernel
theorem dX8_plan_21 : decode cX8_plan 21 = .ok (.ireturn, 1) := by decide +kernel
theorem dX8_plan_22 : decode cX8_plan 22 = .ok (.aload_n 0, 1) := by decide +kernel
theorem dX8_plan_23 : decode cX8_plan 23 = .ok (.getfield 66, 3) := by decide +kernel
theorem dX8_plan_26 : decode cX8_plan 26 = .ok (.iload_n 1, 1) := by decide +kernel
theorem dX8_plan_27 : decode cX8_plan 27 = .ok (.invokevirtual 157, 3) := by decide +kernel
theorem dX8_plan_30 : decode cX8_plan 30 = .ok (.ifCond .ge 6, 3) := by decide +kernel
theorem dX8_plan_33 : decode cX8_plan 33 = .ok (.bipush (-11), 2) := by decide +kernel
theorem dX8_plan_35 : decode cX8_plan 35 = .ok (.ireturn, 1) := by decide +kernel
theorem dX8_plan_36 : decode cX8_plan 36 = .ok (.aload_n 0, 1) := by decide +kernel
theorem dX8_plan_37 : decode cX8_plan 37 = .ok (.getfield 18, 3) := by decide +kernel
theorem dX8_plan_40 : decode cX8_plan 40 = .ok (.aload_n 0, 1) := by decide +kernel
theorem dX8_plan_41 : decode cX8_plan 41 = .ok (.getfield 12, 3) := by decide +kernel
theorem dX8_plan_44 : decode cX8_plan 44 = .ok (.invokevirtual 170, 3) := by decide +kernel
theorem dX8_plan_47 : decode cX8_plan 47 = .ok (.iconst 0, 1) := by decide +kernel
theorem dX8_plan_48 : decode cX8_plan 48 = .ok (.istore_n 3, 1) := by decide +kernel
theorem dX8_plan_49 : decode cX8_plan 49 = .ok (.iconst 0, 1) := by decide +kernel
theorem dX8_plan_50 : decode cX8_plan 50 = .ok (.istore 4, 2) := by decide +kernel
theorem dX8_plan_52 : decode cX8_plan 52 = .ok (.iload 4, 2) := by decide +kernel
theorem dX8_plan_54 : decode cX8_plan 54 = .ok (.aload_n 0, 1) := by decide +kernel
theorem dX8_plan_55 : decode cX8_plan 55 = .ok (.getfield 66, 3) := by decide +kernel
theorem dX8_plan_58 : decode cX8_plan 58 = .ok (.iload_n 1, 1) := by decide +kernel
theorem dX8_plan_59 : decode cX8_plan 59 = .ok (.invokevirtual 163, 3) := by decide +kernel
theorem dX8_plan_62 : decode cX8_plan 62 = .ok (.if_icmp .ge 66, 3) := by decide +kernel
theorem dX8_plan_65 : decode cX8_plan 65 = .ok (.aload_n 0, 1) := by decide +kernel
theorem dX8_plan_66 : decode cX8_plan 66 = .ok (.getfield 66, 3) := by decide +kernel
theorem dX8_plan_69 : decode cX8_plan 69 = .ok (.iload_n 1, 1) := by decide +kernel
theorem dX8_plan_70 : decode cX8_plan 70 = .ok (.iload 4, 2) := by decide +kernel
theorem dX8_plan_72 : decode cX8_plan 72 = .ok (.invokevirtual 192, 3) := by decide +kernel
theorem dX8_plan_75 : decode cX8_plan 75 = .ok (.istore 5, 2) := by decide +kernel
theorem dX8_plan_77 : decode cX8_plan 77 = .ok (.aload_n 0, 1) := by decide +kernel
theorem dX8_plan_78 : decode cX8_plan 78 = .ok (.getfield 18, 3) := by decide +kernel
theorem dX8_plan_81 : decode cX8_plan 81 = .ok (.aload_n 0, 1) := by decide +kernel
theorem dX8_plan_82 : decode cX8_plan 82 = .ok (.getfield 21, 3) := by decide +kernel
theorem dX8_plan_85 : decode cX8_plan 85 = .ok (.invokevirtual 176, 3) := by decide +kernel
theorem dX8_plan_88 : decode cX8_plan 88 = .ok (.istore 6, 2) := by decide +kernel
theorem dX8_plan_90 : decode cX8_plan 90 = .ok (.iload 5, 2) := by decide +kernel
theorem dX8_plan_92 : decode cX8_plan 92 = .ok (.ifCond .lt 36, 3) := by decide +kernel
theorem dX8_plan_95 : decode cX8_plan 95 = .ok (.iload 5, 2) := by decide +kernel
theorem dX8_plan_97 : decode cX8_plan 97 = .ok (.iload 6, 2) := by decide +kernel
theorem dX8_plan_99 : decode cX8_plan 99 = .ok (.if_icmp .lt 6, 3) := by decide +kernel
theorem dX8_plan_102 : decode cX8_plan 102 = .ok (.goto 26, 3) := by decide +kernel
theorem dX8_plan_105 : decode cX8_plan 105 = .ok (.aload_n 0, 1) := by decide +kernel
theorem dX8_plan_106 : decode cX8_plan 106 = .ok (.getfield 18, 3) := by decide +kernel
theorem dX8_plan_109 : decode cX8_plan 109 = .ok (.aload_n 0, 1) := by decide +kernel
theorem dX8_plan_110 : decode cX8_plan 110 = .ok (.getfield 21, 3) := by decide +kernel
theorem dX8_plan_113 : decode cX8_plan 113 = .ok (.iload 5, 2) := by decide +kernel
theorem dX8_plan_115 : decode cX8_plan 115 = .ok (.iaload, 1) := by decide +kernel
theorem dX8_plan_116 : decode cX8_plan 116 = .ok (.invokevirtual 186, 3) := by decide +kernel
theorem dX8_plan_119 : decode cX8_plan 119 = .ok (.iinc 3 1, 3) := by decide +kernel
theorem dX8_plan_122 : decode cX8_plan 122 = .ok (.iinc 4 1, 3) := by decide +kernel
theorem dX8_plan_125 : decode cX8_plan 125 = .ok (.goto (-73), 3) := by decide +kernel
theorem dX8_plan_128 : decode cX8_plan 128 = .ok (.iload_n 2, 1) := by decide +kernel
theorem dX8_plan_129 : decode cX8_plan 129 = .ok (.ifCond .ne 5, 3) := by decide +kernel
theorem dX8_plan_132 : decode cX8_plan 132 = .ok (.iload_n 3, 1) := by decide +kernel
theorem dX8_plan_133 : decode cX8_plan 133 = .ok (.ireturn, 1) := by decide +kernel
theorem dX8_plan_134 : decode cX8_plan 134 = .ok (.iload_n 2, 1) := by decide +kernel
theorem dX8_plan_135 : decode cX8_plan 135 = .ok (.iconst 1, 1) := by decide +kernel
theorem dX8_plan_136 : decode cX8_plan 136 = .ok (.if_icmp .ne 13, 3) := by decide +kernel
theorem dX8_plan_139 : decode cX8_plan 139 = .ok (.aload_n 0, 1) := by decide +kernel
theorem dX8_plan_140 : decode cX8_plan 140 = .ok (.getfield 18, 3) := by decide +kernel
theorem dX8_plan_143 : decode cX8_plan 143 = .ok (.invokevirtual 99, 3) := by decide +kernel
theorem dX8_plan_146 : decode cX8_plan 146 = .ok (.goto 13, 3) := by decide +kernel
theorem dX8_plan_149 : decode cX8_plan 149 = .ok (.bipush 100, 2) := by decide +kernel
theorem dX8_plan_151 : decode cX8_plan 151 = .ok (.aload_n 0, 1) := by decide +kernel
theorem dX8_plan_152 : decode cX8_plan 152 = .ok (.getfield 18, 3) := by decide +kernel
theorem dX8_plan_155 : decode cX8_plan 155 = .ok (.invokevirtual 126, 3) := by decide +kernel
theorem dX8_plan_158 : decode cX8_plan 158 = .ok (.iadd, 1) := by decide +kernel
theorem dX8_plan_159 : decode cX8_plan 159 = .ok (.ireturn, 1) := by decide +kernel
theorem dX8_fewer_0 : decode cX8_fewer 0 = .ok (.iload_n 1, 1) := by decide +kernel
theorem dX8_fewer_1 : decode cX8_fewer 1 = .ok (.ifCond .lt 8, 3) := by decide +kernel
theorem dX8_fewer_4 : decode cX8_fewer 4 = .ok (.iload_n 1, 1) := by decide +kernel
theorem dX8_fewer_5 : decode cX8_fewer 5 = .ok (.iconst 1, 1) := by decide +kernel
theorem dX8_fewer_6 : decode cX8_fewer 6 = .ok (.if_icmp .le 5, 3) := by decide +kernel
theorem dX8_fewer_9 : decode cX8_fewer 9 = .ok (.iconst (-1), 1) := by decide +kernel
theorem dX8_fewer_10 : decode cX8_fewer 10 = .ok (.ireturn, 1) := by decide +kernel
theorem dX8_fewer_11 : decode cX8_fewer 11 = .ok (.aload_n 0, 1) := by decide +kernel
theorem dX8_fewer_12 : decode cX8_fewer 12 = .ok (.getfield 18, 3) := by decide +kernel
theorem dX8_fewer_15 : decode cX8_fewer 15 = .ok (.aload_n 0, 1) := by decide +kernel
theorem dX8_fewer_16 : decode cX8_fewer 16 = .ok (.getfield 12, 3) := by decide +kernel
theorem dX8_fewer_19 : decode cX8_fewer 19 = .ok (.invokevirtual 170, 3) := by decide +kernel
theorem dX8_fewer_22 : decode cX8_fewer 22 = .ok (.iconst 0, 1) := by decide +kernel
theorem dX8_fewer_23 : decode cX8_fewer 23 = .ok (.istore_n 2, 1) := by decide +kernel
theorem dX8_fewer_24 : decode cX8_fewer 24 = .ok (.iconst 0, 1) := by decide +kernel
theorem dX8_fewer_25 : decode cX8_fewer 25 = .ok (.istore_n 3, 1) := by decide +kernel
theorem dX8_fewer_26 : decode cX8_fewer 26 = .ok (.iload_n 3, 1) := by decide +kernel
theorem dX8_fewer_27 : decode cX8_fewer 27 = .ok (.bipush 70, 2) := by decide +kernel
theorem dX8_fewer_29 : decode cX8_fewer 29 = .ok (.if_icmp .ge 38, 3) := by decide +kernel
theorem dX8_fewer_32 : decode cX8_fewer 32 = .ok (.aload_n 0, 1) := by decide +kernel
theorem dX8_fewer_33 : decode cX8_fewer 33 = .ok (.getfield 18, 3) := by decide +kernel
theorem dX8_fewer_36 : decode cX8_fewer 36 = .ok (.invokevirtual 196, 3) := by decide +kernel
theorem dX8_fewer_39 : decode cX8_fewer 39 = .ok (.istore 4, 2) := by decide +kernel
theorem dX8_fewer_41 : decode cX8_fewer 41 = .ok (.iload 4, 2) := by decide +kernel
theorem dX8_fewer_43 : decode cX8_fewer 43 = .ok (.ifCond .ne 6, 3) := by decide +kernel
theorem dX8_fewer_46 : decode cX8_fewer 46 = .ok (.goto 21, 3) := by decide +kernel
theorem dX8_fewer_49 : decode cX8_fewer 49 = .ok (.aload_n 0, 1) := by decide +kernel
theorem dX8_fewer_50 : decode cX8_fewer 50 = .ok (.getfield 18, 3) := by decide +kernel
theorem dX8_fewer_53 : decode cX8_fewer 53 = .ok (.iload 4, 2) := by decide +kernel
theorem dX8_fewer_55 : decode cX8_fewer 55 = .ok (.invokevirtual 186, 3) := by decide +kernel
theorem dX8_fewer_58 : decode cX8_fewer 58 = .ok (.iinc 2 1, 3) := by decide +kernel
theorem dX8_fewer_61 : decode cX8_fewer 61 = .ok (.iinc 3 1, 3) := by decide +kernel
theorem dX8_fewer_64 : decode cX8_fewer 64 = .ok (.goto (-38), 3) := by decide +kernel
theorem dX8_fewer_67 : decode cX8_fewer 67 = .ok (.iload_n 1, 1) := by decide +kernel
theorem dX8_fewer_68 : decode cX8_fewer 68 = .ok (.ifCond .ne 7, 3) := by decide +kernel
theorem dX8_fewer_71 : decode cX8_fewer 71 = .ok (.iload_n 2, 1) := by decide +kernel
theorem dX8_fewer_72 : decode cX8_fewer 72 = .ok (.goto 10, 3) := by decide +kernel
theorem dX8_fewer_75 : decode cX8_fewer 75 = .ok (.aload_n 0, 1) := by decide +kernel
theorem dX8_fewer_76 : decode cX8_fewer 76 = .ok (.getfield 18, 3) := by decide +kernel
theorem dX8_fewer_79 : decode cX8_fewer 79 = .ok (.invokevirtual 99, 3) := by decide +kernel
theorem dX8_fewer_82 : decode cX8_fewer 82 = .ok (.ireturn, 1) := by decide +kernel
theorem dX8_walk_0 : decode cX8_walk 0 = .ok (.iload_n 1, 1) := by decide +kernel
theorem dX8_walk_1 : decode cX8_walk 1 = .ok (.ifCond .lt 9, 3) := by decide +kernel
theorem dX8_walk_4 : decode cX8_walk 4 = .ok (.iload_n 1, 1) := by decide +kernel
theorem dX8_walk_5 : decode cX8_walk 5 = .ok (.bipush 20, 2) := by decide +kernel
theorem dX8_walk_7 : decode cX8_walk 7 = .ok (.if_icmp .le 6, 3) := by decide +kernel
theorem dX8_walk_10 : decode cX8_walk 10 = .ok (.bipush (-2), 2) := by decide +kernel
theorem dX8_walk_12 : decode cX8_walk 12 = .ok (.ireturn, 1) := by decide +kernel
theorem dX8_walk_13 : decode cX8_walk 13 = .ok (.iload_n 3, 1) := by decide +kernel
theorem dX8_walk_14 : decode cX8_walk 14 = .ok (.ifCond .lt 8, 3) := by decide +kernel
theorem dX8_walk_17 : decode cX8_walk 17 = .ok (.iload_n 3, 1) := by decide +kernel
theorem dX8_walk_18 : decode cX8_walk 18 = .ok (.iconst 2, 1) := by decide +kernel
theorem dX8_walk_19 : decode cX8_walk 19 = .ok (.if_icmp .le 5, 3) := by decide +kernel
theorem dX8_walk_22 : decode cX8_walk 22 = .ok (.iconst (-1), 1) := by decide +kernel
theorem dX8_walk_23 : decode cX8_walk 23 = .ok (.ireturn, 1) := by decide +kernel
theorem dX8_walk_24 : decode cX8_walk 24 = .ok (.aload_n 0, 1) := by decide +kernel
theorem dX8_walk_25 : decode cX8_walk 25 = .ok (.getfield 18, 3) := by decide +kernel
theorem dX8_walk_28 : decode cX8_walk 28 = .ok (.aload_n 0, 1) := by decide +kernel
theorem dX8_walk_29 : decode cX8_walk 29 = .ok (.getfield 12, 3) := by decide +kernel
theorem dX8_walk_32 : decode cX8_walk 32 = .ok (.invokevirtual 170, 3) := by decide +kernel
theorem dX8_walk_35 : decode cX8_walk 35 = .ok (.iload_n 2, 1) := by decide +kernel
theorem dX8_walk_36 : decode cX8_walk 36 = .ok (.istore 4, 2) := by decide +kernel
theorem dX8_walk_38 : decode cX8_walk 38 = .ok (.iconst 0, 1) := by decide +kernel
theorem dX8_walk_39 : decode cX8_walk 39 = .ok (.istore 5, 2) := by decide +kernel
theorem dX8_walk_41 : decode cX8_walk 41 = .ok (.iload 5, 2) := by decide +kernel
theorem dX8_walk_43 : decode cX8_walk 43 = .ok (.iload_n 1, 1) := by decide +kernel
theorem dX8_walk_44 : decode cX8_walk 44 = .ok (.if_icmp .ge 68, 3) := by decide +kernel
theorem dX8_walk_47 : decode cX8_walk 47 = .ok (.aload_n 0, 1) := by decide +kernel
theorem dX8_walk_48 : decode cX8_walk 48 = .ok (.getfield 18, 3) := by decide +kernel
theorem dX8_walk_51 : decode cX8_walk 51 = .ok (.aload_n 0, 1) := by decide +kernel
theorem dX8_walk_52 : decode cX8_walk 52 = .ok (.getfield 21, 3) := by decide +kernel
theorem dX8_walk_55 : decode cX8_walk 55 = .ok (.invokevirtual 176, 3) := by decide +kernel
theorem dX8_walk_58 : decode cX8_walk 58 = .ok (.istore 6, 2) := by decide +kernel
theorem dX8_walk_60 : decode cX8_walk 60 = .ok (.iload 6, 2) := by decide +kernel
theorem dX8_walk_62 : decode cX8_walk 62 = .ok (.ifCond .gt 6, 3) := by decide +kernel
theorem dX8_walk_65 : decode cX8_walk 65 = .ok (.goto 47, 3) := by decide +kernel
theorem dX8_walk_68 : decode cX8_walk 68 = .ok (.iload 4, 2) := by decide +kernel
theorem dX8_walk_70 : decode cX8_walk 70 = .ok (.ldc 199, 2) := by decide +kernel
theorem dX8_walk_72 : decode cX8_walk 72 = .ok (.imul, 1) := by decide +kernel
theorem dX8_walk_73 : decode cX8_walk 73 = .ok (.sipush 12345, 3) := by decide +kernel
theorem dX8_walk_76 : decode cX8_walk 76 = .ok (.iadd, 1) := by decide +kernel
theorem dX8_walk_77 : decode cX8_walk 77 = .ok (.istore 4, 2) := by decide +kernel
theorem dX8_walk_79 : decode cX8_walk 79 = .ok (.iload 4, 2) := by decide +kernel
theorem dX8_walk_81 : decode cX8_walk 81 = .ok (.ldc 200, 2) := by decide +kernel
theorem dX8_walk_83 : decode cX8_walk 83 = .ok (.iand, 1) := by decide +kernel
theorem dX8_walk_84 : decode cX8_walk 84 = .ok (.ldc 201, 2) := by decide +kernel
theorem dX8_walk_86 : decode cX8_walk 86 = .ok (.idiv, 1) := by decide +kernel
theorem dX8_walk_87 : decode cX8_walk 87 = .ok (.iload 6, 2) := by decide +kernel
theorem dX8_walk_89 : decode cX8_walk 89 = .ok (.irem, 1) := by decide +kernel
theorem dX8_walk_90 : decode cX8_walk 90 = .ok (.istore 7, 2) := by decide +kernel
theorem dX8_walk_92 : decode cX8_walk 92 = .ok (.aload_n 0, 1) := by decide +kernel
theorem dX8_walk_93 : decode cX8_walk 93 = .ok (.getfield 18, 3) := by decide +kernel
theorem dX8_walk_96 : decode cX8_walk 96 = .ok (.aload_n 0, 1) := by decide +kernel
theorem dX8_walk_97 : decode cX8_walk 97 = .ok (.getfield 21, 3) := by decide +kernel
theorem dX8_walk_100 : decode cX8_walk 100 = .ok (.iload 7, 2) := by decide +kernel
theorem dX8_walk_102 : decode cX8_walk 102 = .ok (.iaload, 1) := by decide +kernel
theorem dX8_walk_103 : decode cX8_walk 103 = .ok (.invokevirtual 186, 3) := by decide +kernel
theorem dX8_walk_106 : decode cX8_walk 106 = .ok (.iinc 5 1, 3) := by decide +kernel
theorem dX8_walk_109 : decode cX8_walk 109 = .ok (.goto (-68), 3) := by decide +kernel
theorem dX8_walk_112 : decode cX8_walk 112 = .ok (.iload_n 3, 1) := by decide +kernel
theorem dX8_walk_113 : decode cX8_walk 113 = .ok (.ifCond .ne 11, 3) := by decide +kernel
theorem dX8_walk_116 : decode cX8_walk 116 = .ok (.aload_n 0, 1) := by decide +kernel
theorem dX8_walk_117 : decode cX8_walk 117 = .ok (.getfield 18, 3) := by decide +kernel
theorem dX8_walk_120 : decode cX8_walk 120 = .ok (.invokevirtual 99, 3) := by decide +kernel
theorem dX8_walk_123 : decode cX8_walk 123 = .ok (.ireturn, 1) := by decide +kernel
theorem dX8_walk_124 : decode cX8_walk 124 = .ok (.iload_n 3, 1) := by decide +kernel
theorem dX8_walk_125 : decode cX8_walk 125 = .ok (.iconst 1, 1) := by decide +kernel
theorem dX8_walk_126 : decode cX8_walk 126 = .ok (.if_icmp .ne 13, 3) := by decide +kernel
theorem dX8_walk_129 : decode cX8_walk 129 = .ok (.aload_n 0, 1) := by decide +kernel
theorem dX8_walk_130 : decode cX8_walk 130 = .ok (.getfield 18, 3) := by decide +kernel
theorem dX8_walk_133 : decode cX8_walk 133 = .ok (.invokevirtual 116, 3) := by decide +kernel
theorem dX8_walk_136 : decode cX8_walk 136 = .ok (.goto 13, 3) := by decide +kernel
theorem dX8_walk_139 : decode cX8_walk 139 = .ok (.bipush 100, 2) := by decide +kernel
theorem dX8_walk_141 : decode cX8_walk 141 = .ok (.aload_n 0, 1) := by decide +kernel
theorem dX8_walk_142 : decode cX8_walk 142 = .ok (.getfield 18, 3) := by decide +kernel
theorem dX8_walk_145 : decode cX8_walk 145 = .ok (.invokevirtual 126, 3) := by decide +kernel
theorem dX8_walk_148 : decode cX8_walk 148 = .ok (.iadd, 1) := by decide +kernel
theorem dX8_walk_149 : decode cX8_walk 149 = .ok (.ireturn, 1) := by decide +kernel
theorem dX8_back_0 : decode cX8_back 0 = .ok (.aload_n 0, 1) := by decide +kernel
theorem dX8_back_1 : decode cX8_back 1 = .ok (.getfield 28, 3) := by decide +kernel
theorem dX8_back_4 : decode cX8_back 4 = .ok (.getfield 202, 3) := by decide +kernel
theorem dX8_back_7 : decode cX8_back 7 = .ok (.ifCond .ne 6, 3) := by decide +kernel
theorem dX8_back_10 : decode cX8_back 10 = .ok (.bipush (-3), 2) := by decide +kernel
theorem dX8_back_12 : decode cX8_back 12 = .ok (.ireturn, 1) := by decide +kernel
theorem dX8_back_13 : decode cX8_back 13 = .ok (.aload_n 0, 1) := by decide +kernel
theorem dX8_back_14 : decode cX8_back 14 = .ok (.getfield 28, 3) := by decide +kernel
theorem dX8_back_17 : decode cX8_back 17 = .ok (.aload_n 0, 1) := by decide +kernel
theorem dX8_back_18 : decode cX8_back 18 = .ok (.getfield 12, 3) := by decide +kernel
theorem dX8_back_21 : decode cX8_back 21 = .ok (.invokevirtual 205, 3) := by decide +kernel
theorem dX8_back_24 : decode cX8_back 24 = .ok (.aload_n 0, 1) := by decide +kernel
theorem dX8_back_25 : decode cX8_back 25 = .ok (.getfield 12, 3) := by decide +kernel
theorem dX8_back_28 : decode cX8_back 28 = .ok (.invokevirtual 99, 3) := by decide +kernel
theorem dX8_back_31 : decode cX8_back 31 = .ok (.ireturn, 1) := by decide +kernel
theorem dX8_keep_0 : decode cX8_keep 0 = .ok (.aload_n 0, 1) := by decide +kernel
theorem dX8_keep_1 : decode cX8_keep 1 = .ok (.getfield 35, 3) := by decide +kernel
theorem dX8_keep_4 : decode cX8_keep 4 = .ok (.aload_n 0, 1) := by decide +kernel
theorem dX8_keep_5 : decode cX8_keep 5 = .ok (.getfield 12, 3) := by decide +kernel
theorem dX8_keep_8 : decode cX8_keep 8 = .ok (.invokevirtual 208, 3) := by decide +kernel
theorem dX8_keep_11 : decode cX8_keep 11 = .ok (.ifCond .eq 15, 3) := by decide +kernel
theorem dX8_keep_14 : decode cX8_keep 14 = .ok (.aload_n 0, 1) := by decide +kernel
theorem dX8_keep_15 : decode cX8_keep 15 = .ok (.getfield 35, 3) := by decide +kernel
theorem dX8_keep_18 : decode cX8_keep 18 = .ok (.getfield 211, 3) := by decide +kernel
theorem dX8_keep_21 : decode cX8_keep 21 = .ok (.iconst 1, 1) := by decide +kernel
theorem dX8_keep_22 : decode cX8_keep 22 = .ok (.isub, 1) := by decide +kernel
theorem dX8_keep_23 : decode cX8_keep 23 = .ok (.goto 5, 3) := by decide +kernel
theorem dX8_keep_26 : decode cX8_keep 26 = .ok (.bipush (-4), 2) := by decide +kernel
theorem dX8_keep_28 : decode cX8_keep 28 = .ok (.ireturn, 1) := by decide +kernel
theorem dX8_take_0 : decode cX8_take 0 = .ok (.aload_n 0, 1) := by decide +kernel
theorem dX8_take_1 : decode cX8_take 1 = .ok (.getfield 35, 3) := by decide +kernel
theorem dX8_take_4 : decode cX8_take 4 = .ok (.iload_n 1, 1) := by decide +kernel
theorem dX8_take_5 : decode cX8_take 5 = .ok (.invokevirtual 214, 3) := by decide +kernel
theorem dX8_take_8 : decode cX8_take 8 = .ok (.astore_n 2, 1) := by decide +kernel
theorem dX8_take_9 : decode cX8_take 9 = .ok (.aload_n 2, 1) := by decide +kernel
theorem dX8_take_10 : decode cX8_take 10 = .ok (.ifnonnull 5, 3) := by decide +kernel
theorem dX8_take_13 : decode cX8_take 13 = .ok (.iconst (-1), 1) := by decide +kernel
theorem dX8_take_14 : decode cX8_take 14 = .ok (.ireturn, 1) := by decide +kernel
theorem dX8_take_15 : decode cX8_take 15 = .ok (.aload_n 0, 1) := by decide +kernel
theorem dX8_take_16 : decode cX8_take 16 = .ok (.getfield 12, 3) := by decide +kernel
theorem dX8_take_19 : decode cX8_take 19 = .ok (.aload_n 2, 1) := by decide +kernel
theorem dX8_take_20 : decode cX8_take 20 = .ok (.invokevirtual 170, 3) := by decide +kernel
theorem dX8_take_23 : decode cX8_take 23 = .ok (.aload_n 0, 1) := by decide +kernel
theorem dX8_take_24 : decode cX8_take 24 = .ok (.getfield 28, 3) := by decide +kernel
theorem dX8_take_27 : decode cX8_take 27 = .ok (.invokevirtual 89, 3) := by decide +kernel
theorem dX8_take_30 : decode cX8_take 30 = .ok (.aload_n 0, 1) := by decide +kernel
theorem dX8_take_31 : decode cX8_take 31 = .ok (.getfield 12, 3) := by decide +kernel
theorem dX8_take_34 : decode cX8_take 34 = .ok (.invokevirtual 99, 3) := by decide +kernel
theorem dX8_take_37 : decode cX8_take 37 = .ok (.ireturn, 1) := by decide +kernel
theorem dX8_kept_0 : decode cX8_kept 0 = .ok (.aload_n 0, 1) := by decide +kernel
theorem dX8_kept_1 : decode cX8_kept 1 = .ok (.getfield 35, 3) := by decide +kernel
theorem dX8_kept_4 : decode cX8_kept 4 = .ok (.iload_n 1, 1) := by decide +kernel
theorem dX8_kept_5 : decode cX8_kept 5 = .ok (.invokevirtual 214, 3) := by decide +kernel
theorem dX8_kept_8 : decode cX8_kept 8 = .ok (.astore_n 3, 1) := by decide +kernel
theorem dX8_kept_9 : decode cX8_kept 9 = .ok (.aload_n 3, 1) := by decide +kernel
theorem dX8_kept_10 : decode cX8_kept 10 = .ok (.ifnonnull 5, 3) := by decide +kernel
theorem dX8_kept_13 : decode cX8_kept 13 = .ok (.iconst (-1), 1) := by decide +kernel
theorem dX8_kept_14 : decode cX8_kept 14 = .ok (.ireturn, 1) := by decide +kernel
theorem dX8_kept_15 : decode cX8_kept 15 = .ok (.iload_n 2, 1) := by decide +kernel
theorem dX8_kept_16 : decode cX8_kept 16 = .ok (.tableswitch 55 0 3 #[32, 37, 42, 50], 32) := by decide +kernel
theorem dX8_kept_48 : decode cX8_kept 48 = .ok (.aload_n 3, 1) := by decide +kernel
theorem dX8_kept_49 : decode cX8_kept 49 = .ok (.getfield 81, 3) := by decide +kernel
theorem dX8_kept_52 : decode cX8_kept 52 = .ok (.ireturn, 1) := by decide +kernel
theorem dX8_kept_53 : decode cX8_kept 53 = .ok (.aload_n 3, 1) := by decide +kernel
theorem dX8_kept_54 : decode cX8_kept 54 = .ok (.invokevirtual 99, 3) := by decide +kernel
theorem dX8_kept_57 : decode cX8_kept 57 = .ok (.ireturn, 1) := by decide +kernel
theorem dX8_kept_58 : decode cX8_kept 58 = .ok (.bipush 100, 2) := by decide +kernel
theorem dX8_kept_60 : decode cX8_kept 60 = .ok (.aload_n 3, 1) := by decide +kernel
theorem dX8_kept_61 : decode cX8_kept 61 = .ok (.invokevirtual 126, 3) := by decide +kernel
theorem dX8_kept_64 : decode cX8_kept 64 = .ok (.iadd, 1) := by decide +kernel
theorem dX8_kept_65 : decode cX8_kept 65 = .ok (.ireturn, 1) := by decide +kernel
theorem dX8_kept_66 : decode cX8_kept 66 = .ok (.aload_n 3, 1) := by decide +kernel
theorem dX8_kept_67 : decode cX8_kept 67 = .ok (.invokevirtual 119, 3) := by decide +kernel
theorem dX8_kept_70 : decode cX8_kept 70 = .ok (.ireturn, 1) := by decide +kernel
theorem dX8_kept_71 : decode cX8_kept 71 = .ok (.iconst (-1), 1) := by decide +kernel
theorem dX8_kept_72 : decode cX8_kept 72 = .ok (.ireturn, 1) := by decide +kernel
theorem dX8_chain_0 : decode cX8_chain 0 = .ok (.aload_n 0, 1) := by decide +kernel
theorem dX8_chain_1 : decode cX8_chain 1 = .ok (.getfield 35, 3) := by decide +kernel
theorem dX8_chain_4 : decode cX8_chain 4 = .ok (.iload_n 1, 1) := by decide +kernel
theorem dX8_chain_5 : decode cX8_chain 5 = .ok (.invokevirtual 214, 3) := by decide +kernel
theorem dX8_chain_8 : decode cX8_chain 8 = .ok (.astore 4, 2) := by decide +kernel
theorem dX8_chain_10 : decode cX8_chain 10 = .ok (.aload 4, 2) := by decide +kernel
theorem dX8_chain_12 : decode cX8_chain 12 = .ok (.ifnull 8, 3) := by decide +kernel
theorem dX8_chain_15 : decode cX8_chain 15 = .ok (.iload_n 3, 1) := by decide +kernel
theorem dX8_chain_16 : decode cX8_chain 16 = .ok (.iconst (-1), 1) := by decide +kernel
theorem dX8_chain_17 : decode cX8_chain 17 = .ok (.if_icmp .ge 5, 3) := by decide +kernel
theorem dX8_chain_20 : decode cX8_chain 20 = .ok (.iconst (-1), 1) := by decide +kernel
theorem dX8_chain_21 : decode cX8_chain 21 = .ok (.ireturn, 1) := by decide +kernel
theorem dX8_chain_22 : decode cX8_chain 22 = .ok (.iload_n 2, 1) := by decide +kernel
theorem dX8_chain_23 : decode cX8_chain 23 = .ok (.iconst 1, 1) := by decide +kernel
theorem dX8_chain_24 : decode cX8_chain 24 = .ok (.if_icmp .eq 11, 3) := by decide +kernel
theorem dX8_chain_27 : decode cX8_chain 27 = .ok (.iload_n 2, 1) := by decide +kernel
theorem dX8_chain_28 : decode cX8_chain 28 = .ok (.iconst 2, 1) := by decide +kernel
theorem dX8_chain_29 : decode cX8_chain 29 = .ok (.if_icmp .eq 6, 3) := by decide +kernel
theorem dX8_chain_32 : decode cX8_chain 32 = .ok (.bipush (-2), 2) := by decide +kernel
theorem dX8_chain_34 : decode cX8_chain 34 = .ok (.ireturn, 1) := by decide +kernel
theorem dX8_chain_35 : decode cX8_chain 35 = .ok (.aload 4, 2) := by decide +kernel
theorem dX8_chain_37 : decode cX8_chain 37 = .ok (.getfield 81, 3) := by decide +kernel
theorem dX8_chain_40 : decode cX8_chain 40 = .ok (.aload_n 0, 1) := by decide +kernel
theorem dX8_chain_41 : decode cX8_chain 41 = .ok (.getfield 12, 3) := by decide +kernel
theorem dX8_chain_44 : decode cX8_chain 44 = .ok (.getfield 81, 3) := by decide +kernel
theorem dX8_chain_47 : decode cX8_chain 47 = .ok (.if_icmp .eq 6, 3) := by decide +kernel
theorem dX8_chain_50 : decode cX8_chain 50 = .ok (.bipush (-3), 2) := by decide +kernel
theorem dX8_chain_52 : decode cX8_chain 52 = .ok (.ireturn, 1) := by decide +kernel
theorem dX8_chain_53 : decode cX8_chain 53 = .ok (.aload_n 0, 1) := by decide +kernel
theorem dX8_chain_54 : decode cX8_chain 54 = .ok (.getfield 52, 3) := by decide +kernel
theorem dX8_chain_57 : decode cX8_chain 57 = .ok (.aload_n 0, 1) := by decide +kernel
theorem dX8_chain_58 : decode cX8_chain 58 = .ok (.getfield 12, 3) := by decide +kernel
theorem dX8_chain_61 : decode cX8_chain 61 = .ok (.aload 4, 2) := by decide +kernel
theorem dX8_chain_63 : decode cX8_chain 63 = .ok (.iload_n 2, 1) := by decide +kernel
theorem dX8_chain_64 : decode cX8_chain 64 = .ok (.invokevirtual 217, 3) := by decide +kernel
theorem dX8_chain_67 : decode cX8_chain 67 = .ok (.istore 5, 2) := by decide +kernel
theorem dX8_chain_69 : decode cX8_chain 69 = .ok (.iload_n 3, 1) := by decide +kernel
theorem dX8_chain_70 : decode cX8_chain 70 = .ok (.iconst (-1), 1) := by decide +kernel
theorem dX8_chain_71 : decode cX8_chain 71 = .ok (.if_icmp .ne 6, 3) := by decide +kernel
theorem dX8_chain_74 : decode cX8_chain 74 = .ok (.iload 5, 2) := by decide +kernel
theorem dX8_chain_76 : decode cX8_chain 76 = .ok (.ireturn, 1) := by decide +kernel
theorem dX8_chain_77 : decode cX8_chain 77 = .ok (.iload_n 3, 1) := by decide +kernel
theorem dX8_chain_78 : decode cX8_chain 78 = .ok (.iload 5, 2) := by decide +kernel
theorem dX8_chain_80 : decode cX8_chain 80 = .ok (.if_icmp .ge 15, 3) := by decide +kernel
theorem dX8_chain_83 : decode cX8_chain 83 = .ok (.aload_n 0, 1) := by decide +kernel
theorem dX8_chain_84 : decode cX8_chain 84 = .ok (.getfield 52, 3) := by decide +kernel
theorem dX8_chain_87 : decode cX8_chain 87 = .ok (.getfield 221, 3) := by decide +kernel
theorem dX8_chain_90 : decode cX8_chain 90 = .ok (.iload_n 3, 1) := by decide +kernel
theorem dX8_chain_91 : decode cX8_chain 91 = .ok (.iaload, 1) := by decide +kernel
theorem dX8_chain_92 : decode cX8_chain 92 = .ok (.goto 5, 3) := by decide +kernel
theorem dX8_chain_95 : decode cX8_chain 95 = .ok (.bipush (-5), 2) := by decide +kernel
theorem dX8_chain_97 : decode cX8_chain 97 = .ok (.ireturn, 1) := by decide +kernel
theorem dX8_alike_0 : decode cX8_alike 0 = .ok (.aload_n 0, 1) := by decide +kernel
theorem dX8_alike_1 : decode cX8_alike 1 = .ok (.getfield 35, 3) := by decide +kernel
theorem dX8_alike_4 : decode cX8_alike 4 = .ok (.iload_n 1, 1) := by decide +kernel
theorem dX8_alike_5 : decode cX8_alike 5 = .ok (.invokevirtual 214, 3) := by decide +kernel
theorem dX8_alike_8 : decode cX8_alike 8 = .ok (.astore_n 3, 1) := by decide +kernel
theorem dX8_alike_9 : decode cX8_alike 9 = .ok (.aload_n 0, 1) := by decide +kernel
theorem dX8_alike_10 : decode cX8_alike 10 = .ok (.getfield 35, 3) := by decide +kernel
theorem dX8_alike_13 : decode cX8_alike 13 = .ok (.iload_n 2, 1) := by decide +kernel
theorem dX8_alike_14 : decode cX8_alike 14 = .ok (.invokevirtual 214, 3) := by decide +kernel
theorem dX8_alike_17 : decode cX8_alike 17 = .ok (.astore 4, 2) := by decide +kernel
theorem dX8_alike_19 : decode cX8_alike 19 = .ok (.aload_n 3, 1) := by decide +kernel
theorem dX8_alike_20 : decode cX8_alike 20 = .ok (.ifnull 8, 3) := by decide +kernel
theorem dX8_alike_23 : decode cX8_alike 23 = .ok (.aload 4, 2) := by decide +kernel
theorem dX8_alike_25 : decode cX8_alike 25 = .ok (.ifnonnull 5, 3) := by decide +kernel
theorem dX8_alike_28 : decode cX8_alike 28 = .ok (.iconst (-1), 1) := by decide +kernel
theorem dX8_alike_29 : decode cX8_alike 29 = .ok (.ireturn, 1) := by decide +kernel
theorem dX8_alike_30 : decode cX8_alike 30 = .ok (.aload_n 0, 1) := by decide +kernel
theorem dX8_alike_31 : decode cX8_alike 31 = .ok (.getfield 59, 3) := by decide +kernel
theorem dX8_alike_34 : decode cX8_alike 34 = .ok (.aload_n 3, 1) := by decide +kernel
theorem dX8_alike_35 : decode cX8_alike 35 = .ok (.aload 4, 2) := by decide +kernel
theorem dX8_alike_37 : decode cX8_alike 37 = .ok (.invokevirtual 224, 3) := by decide +kernel
theorem dX8_alike_40 : decode cX8_alike 40 = .ok (.ifCond .eq 7, 3) := by decide +kernel
theorem dX8_alike_43 : decode cX8_alike 43 = .ok (.iconst 1, 1) := by decide +kernel
theorem dX8_alike_44 : decode cX8_alike 44 = .ok (.goto 4, 3) := by decide +kernel
theorem dX8_alike_47 : decode cX8_alike 47 = .ok (.iconst 0, 1) := by decide +kernel
theorem dX8_alike_48 : decode cX8_alike 48 = .ok (.ireturn, 1) := by decide +kernel
theorem dX8_common_0 : decode cX8_common 0 = .ok (.aload_n 0, 1) := by decide +kernel
theorem dX8_common_1 : decode cX8_common 1 = .ok (.getfield 35, 3) := by decide +kernel
theorem dX8_common_4 : decode cX8_common 4 = .ok (.iload_n 1, 1) := by decide +kernel
theorem dX8_common_5 : decode cX8_common 5 = .ok (.invokevirtual 214, 3) := by decide +kernel
theorem dX8_common_8 : decode cX8_common 8 = .ok (.astore_n 3, 1) := by decide +kernel
theorem dX8_common_9 : decode cX8_common 9 = .ok (.aload_n 0, 1) := by decide +kernel
theorem dX8_common_10 : decode cX8_common 10 = .ok (.getfield 35, 3) := by decide +kernel
theorem dX8_common_13 : decode cX8_common 13 = .ok (.iload_n 2, 1) := by decide +kernel
theorem dX8_common_14 : decode cX8_common 14 = .ok (.invokevirtual 214, 3) := by decide +kernel
theorem dX8_common_17 : decode cX8_common 17 = .ok (.astore 4, 2) := by decide +kernel
theorem dX8_common_19 : decode cX8_common 19 = .ok (.aload_n 3, 1) := by decide +kernel
theorem dX8_common_20 : decode cX8_common 20 = .ok (.ifnull 8, 3) := by decide +kernel
theorem dX8_common_23 : decode cX8_common 23 = .ok (.aload 4, 2) := by decide +kernel
theorem dX8_common_25 : decode cX8_common 25 = .ok (.ifnonnull 5, 3) := by decide +kernel
theorem dX8_common_28 : decode cX8_common 28 = .ok (.iconst (-1), 1) := by decide +kernel
theorem dX8_common_29 : decode cX8_common 29 = .ok (.ireturn, 1) := by decide +kernel
theorem dX8_common_30 : decode cX8_common 30 = .ok (.iconst 0, 1) := by decide +kernel
theorem dX8_common_31 : decode cX8_common 31 = .ok (.istore 5, 2) := by decide +kernel
theorem dX8_common_33 : decode cX8_common 33 = .ok (.iconst 1, 1) := by decide +kernel
theorem dX8_common_34 : decode cX8_common 34 = .ok (.istore 6, 2) := by decide +kernel
theorem dX8_common_36 : decode cX8_common 36 = .ok (.iload 6, 2) := by decide +kernel
theorem dX8_common_38 : decode cX8_common 38 = .ok (.sipush 256, 3) := by decide +kernel
theorem dX8_common_41 : decode cX8_common 41 = .ok (.if_icmp .ge 31, 3) := by decide +kernel
theorem dX8_common_44 : decode cX8_common 44 = .ok (.aload_n 3, 1) := by decide +kernel
theorem dX8_common_45 : decode cX8_common 45 = .ok (.iload 6, 2) := by decide +kernel
theorem dX8_common_47 : decode cX8_common 47 = .ok (.invokevirtual 228, 3) := by decide +kernel
theorem dX8_common_50 : decode cX8_common 50 = .ok (.ifCond .eq 16, 3) := by decide +kernel
theorem dX8_common_53 : decode cX8_common 53 = .ok (.aload 4, 2) := by decide +kernel
theorem dX8_common_55 : decode cX8_common 55 = .ok (.iload 6, 2) := by decide +kernel
theorem dX8_common_57 : decode cX8_common 57 = .ok (.invokevirtual 228, 3) := by decide +kernel
theorem dX8_common_60 : decode cX8_common 60 = .ok (.ifCond .eq 6, 3) := by decide +kernel
theorem dX8_common_63 : decode cX8_common 63 = .ok (.iinc 5 1, 3) := by decide +kernel
theorem dX8_common_66 : decode cX8_common 66 = .ok (.iinc 6 1, 3) := by decide +kernel
theorem dX8_common_69 : decode cX8_common 69 = .ok (.goto (-33), 3) := by decide +kernel
theorem dX8_common_72 : decode cX8_common 72 = .ok (.iload 5, 2) := by decide +kernel
theorem dX8_common_74 : decode cX8_common 74 = .ok (.ireturn, 1) := by decide +kernel
theorem dX8_image_0 : decode cX8_image 0 = .ok (.aload_n 0, 1) := by decide +kernel
theorem dX8_image_1 : decode cX8_image 1 = .ok (.getfield 39, 3) := by decide +kernel
theorem dX8_image_4 : decode cX8_image 4 = .ok (.aload_n 0, 1) := by decide +kernel
theorem dX8_image_5 : decode cX8_image 5 = .ok (.getfield 12, 3) := by decide +kernel
theorem dX8_image_8 : decode cX8_image 8 = .ok (.invokevirtual 170, 3) := by decide +kernel
theorem dX8_image_11 : decode cX8_image 11 = .ok (.aload_n 0, 1) := by decide +kernel
theorem dX8_image_12 : decode cX8_image 12 = .ok (.aload_n 0, 1) := by decide +kernel
theorem dX8_image_13 : decode cX8_image 13 = .ok (.getfield 35, 3) := by decide +kernel
theorem dX8_image_16 : decode cX8_image 16 = .ok (.getfield 211, 3) := by decide +kernel
theorem dX8_image_19 : decode cX8_image 19 = .ok (.putfield 231, 3) := by decide +kernel
theorem dX8_image_22 : decode cX8_image 22 = .ok (.aload_n 0, 1) := by decide +kernel
theorem dX8_image_23 : decode cX8_image 23 = .ok (.iconst 1, 1) := by decide +kernel
theorem dX8_image_24 : decode cX8_image 24 = .ok (.putfield 234, 3) := by decide +kernel
theorem dX8_image_27 : decode cX8_image 27 = .ok (.aload_n 0, 1) := by decide +kernel
theorem dX8_image_28 : decode cX8_image 28 = .ok (.getfield 12, 3) := by decide +kernel
theorem dX8_image_31 : decode cX8_image 31 = .ok (.invokevirtual 99, 3) := by decide +kernel
theorem dX8_image_34 : decode cX8_image 34 = .ok (.ireturn, 1) := by decide +kernel
theorem dX8_undo_0 : decode cX8_undo 0 = .ok (.aload_n 0, 1) := by decide +kernel
theorem dX8_undo_1 : decode cX8_undo 1 = .ok (.getfield 234, 3) := by decide +kernel
theorem dX8_undo_4 : decode cX8_undo 4 = .ok (.ifCond .ne 6, 3) := by decide +kernel
theorem dX8_undo_7 : decode cX8_undo 7 = .ok (.bipush (-3), 2) := by decide +kernel
theorem dX8_undo_9 : decode cX8_undo 9 = .ok (.ireturn, 1) := by decide +kernel
theorem dX8_undo_10 : decode cX8_undo 10 = .ok (.aload_n 0, 1) := by decide +kernel
theorem dX8_undo_11 : decode cX8_undo 11 = .ok (.getfield 12, 3) := by decide +kernel
theorem dX8_undo_14 : decode cX8_undo 14 = .ok (.aload_n 0, 1) := by decide +kernel
theorem dX8_undo_15 : decode cX8_undo 15 = .ok (.getfield 39, 3) := by decide +kernel
theorem dX8_undo_18 : decode cX8_undo 18 = .ok (.invokevirtual 170, 3) := by decide +kernel
theorem dX8_undo_21 : decode cX8_undo 21 = .ok (.aload_n 0, 1) := by decide +kernel
theorem dX8_undo_22 : decode cX8_undo 22 = .ok (.getfield 35, 3) := by decide +kernel
theorem dX8_undo_25 : decode cX8_undo 25 = .ok (.aload_n 0, 1) := by decide +kernel
theorem dX8_undo_26 : decode cX8_undo 26 = .ok (.getfield 231, 3) := by decide +kernel
theorem dX8_undo_29 : decode cX8_undo 29 = .ok (.putfield 211, 3) := by decide +kernel
theorem dX8_undo_32 : decode cX8_undo 32 = .ok (.aload_n 0, 1) := by decide +kernel
theorem dX8_undo_33 : decode cX8_undo 33 = .ok (.getfield 28, 3) := by decide +kernel
theorem dX8_undo_36 : decode cX8_undo 36 = .ok (.invokevirtual 89, 3) := by decide +kernel
theorem dX8_undo_39 : decode cX8_undo 39 = .ok (.aload_n 0, 1) := by decide +kernel
theorem dX8_undo_40 : decode cX8_undo 40 = .ok (.getfield 12, 3) := by decide +kernel
theorem dX8_undo_43 : decode cX8_undo 43 = .ok (.invokevirtual 99, 3) := by decide +kernel
theorem dX8_undo_46 : decode cX8_undo 46 = .ok (.ireturn, 1) := by decide +kernel
theorem dX8_feed_0 : decode cX8_feed 0 = .ok (.iload_n 1, 1) := by decide +kernel
theorem dX8_feed_1 : decode cX8_feed 1 = .ok (.ifCond .lt 9, 3) := by decide +kernel
theorem dX8_feed_4 : decode cX8_feed 4 = .ok (.iload_n 1, 1) := by decide +kernel
theorem dX8_feed_5 : decode cX8_feed 5 = .ok (.bipush 127, 2) := by decide +kernel
theorem dX8_feed_7 : decode cX8_feed 7 = .ok (.if_icmp .le 6, 3) := by decide +kernel
theorem dX8_feed_10 : decode cX8_feed 10 = .ok (.bipush (-2), 2) := by decide +kernel
theorem dX8_feed_12 : decode cX8_feed 12 = .ok (.ireturn, 1) := by decide +kernel
theorem dX8_feed_13 : decode cX8_feed 13 = .ok (.aload_n 0, 1) := by decide +kernel
theorem dX8_feed_14 : decode cX8_feed 14 = .ok (.getfield 73, 3) := by decide +kernel
theorem dX8_feed_17 : decode cX8_feed 17 = .ok (.iload_n 1, 1) := by decide +kernel
theorem dX8_feed_18 : decode cX8_feed 18 = .ok (.invokevirtual 238, 3) := by decide +kernel
theorem dX8_feed_21 : decode cX8_feed 21 = .ok (.ifCond .eq 13, 3) := by decide +kernel
theorem dX8_feed_24 : decode cX8_feed 24 = .ok (.aload_n 0, 1) := by decide +kernel
theorem dX8_feed_25 : decode cX8_feed 25 = .ok (.getfield 73, 3) := by decide +kernel
theorem dX8_feed_28 : decode cX8_feed 28 = .ok (.getfield 240, 3) := by decide +kernel
theorem dX8_feed_31 : decode cX8_feed 31 = .ok (.goto 5, 3) := by decide +kernel
theorem dX8_feed_34 : decode cX8_feed 34 = .ok (.bipush (-4), 2) := by decide +kernel
theorem dX8_feed_36 : decode cX8_feed 36 = .ok (.ireturn, 1) := by decide +kernel
theorem dX8_read_0 : decode cX8_read 0 = .ok (.aload_n 0, 1) := by decide +kernel
theorem dX8_read_1 : decode cX8_read 1 = .ok (.getfield 73, 3) := by decide +kernel
theorem dX8_read_4 : decode cX8_read 4 = .ok (.invokevirtual 243, 3) := by decide +kernel
theorem dX8_read_7 : decode cX8_read 7 = .ok (.istore_n 1, 1) := by decide +kernel
theorem dX8_read_8 : decode cX8_read 8 = .ok (.aload_n 0, 1) := by decide +kernel
theorem dX8_read_9 : decode cX8_read 9 = .ok (.getfield 73, 3) := by decide +kernel
theorem dX8_read_12 : decode cX8_read 12 = .ok (.iconst 0, 1) := by decide +kernel
theorem dX8_read_13 : decode cX8_read 13 = .ok (.putfield 240, 3) := by decide +kernel
theorem dX8_read_16 : decode cX8_read 16 = .ok (.iload_n 1, 1) := by decide +kernel
theorem dX8_read_17 : decode cX8_read 17 = .ok (.ifCond .lt 8, 3) := by decide +kernel
theorem dX8_read_20 : decode cX8_read 20 = .ok (.bipush (-100), 2) := by decide +kernel
theorem dX8_read_22 : decode cX8_read 22 = .ok (.iload_n 1, 1) := by decide +kernel
theorem dX8_read_23 : decode cX8_read 23 = .ok (.isub, 1) := by decide +kernel
theorem dX8_read_24 : decode cX8_read 24 = .ok (.ireturn, 1) := by decide +kernel
theorem dX8_read_25 : decode cX8_read 25 = .ok (.iconst 0, 1) := by decide +kernel
theorem dX8_read_26 : decode cX8_read 26 = .ok (.istore_n 2, 1) := by decide +kernel
theorem dX8_read_27 : decode cX8_read 27 = .ok (.iconst 0, 1) := by decide +kernel
theorem dX8_read_28 : decode cX8_read 28 = .ok (.istore_n 3, 1) := by decide +kernel
theorem dX8_read_29 : decode cX8_read 29 = .ok (.iload_n 3, 1) := by decide +kernel
theorem dX8_read_30 : decode cX8_read 30 = .ok (.aload_n 0, 1) := by decide +kernel
theorem dX8_read_31 : decode cX8_read 31 = .ok (.getfield 73, 3) := by decide +kernel
theorem dX8_read_34 : decode cX8_read 34 = .ok (.getfield 246, 3) := by decide +kernel
theorem dX8_read_37 : decode cX8_read 37 = .ok (.if_icmp .ge 20, 3) := by decide +kernel
theorem dX8_read_40 : decode cX8_read 40 = .ok (.aload_n 0, 1) := by decide +kernel
theorem dX8_read_41 : decode cX8_read 41 = .ok (.iload_n 3, 1) := by decide +kernel
theorem dX8_read_42 : decode cX8_read 42 = .ok (.invokevirtual 249, 3) := by decide +kernel
theorem dX8_read_45 : decode cX8_read 45 = .ok (.ifCond .lt 6, 3) := by decide +kernel
theorem dX8_read_48 : decode cX8_read 48 = .ok (.iinc 2 1, 3) := by decide +kernel
theorem dX8_read_51 : decode cX8_read 51 = .ok (.iinc 3 1, 3) := by decide +kernel
theorem dX8_read_54 : decode cX8_read 54 = .ok (.goto (-25), 3) := by decide +kernel
theorem dX8_read_57 : decode cX8_read 57 = .ok (.aload_n 0, 1) := by decide +kernel
theorem dX8_read_58 : decode cX8_read 58 = .ok (.getfield 28, 3) := by decide +kernel
theorem dX8_read_61 : decode cX8_read 61 = .ok (.invokevirtual 89, 3) := by decide +kernel
theorem dX8_read_64 : decode cX8_read 64 = .ok (.iload_n 2, 1) := by decide +kernel
theorem dX8_read_65 : decode cX8_read 65 = .ok (.ireturn, 1) := by decide +kernel
theorem dX8_spell_0 : decode cX8_spell 0 = .ok (.aload_n 0, 1) := by decide +kernel
theorem dX8_spell_1 : decode cX8_spell 1 = .ok (.iconst 0, 1) := by decide +kernel
theorem dX8_spell_2 : decode cX8_spell 2 = .ok (.putfield 252, 3) := by decide +kernel
theorem dX8_spell_5 : decode cX8_spell 5 = .ok (.iconst 1, 1) := by decide +kernel
theorem dX8_spell_6 : decode cX8_spell 6 = .ok (.istore_n 1, 1) := by decide +kernel
theorem dX8_spell_7 : decode cX8_spell 7 = .ok (.iload_n 1, 1) := by decide +kernel
theorem dX8_spell_8 : decode cX8_spell 8 = .ok (.sipush 256, 3) := by decide +kernel
theorem dX8_spell_11 : decode cX8_spell 11 = .ok (.if_icmp .ge 38, 3) := by decide +kernel
theorem dX8_spell_14 : decode cX8_spell 14 = .ok (.aload_n 0, 1) := by decide +kernel
theorem dX8_spell_15 : decode cX8_spell 15 = .ok (.getfield 12, 3) := by decide +kernel
theorem dX8_spell_18 : decode cX8_spell 18 = .ok (.iload_n 1, 1) := by decide +kernel
theorem dX8_spell_19 : decode cX8_spell 19 = .ok (.invokevirtual 228, 3) := by decide +kernel
theorem dX8_spell_22 : decode cX8_spell 22 = .ok (.ifCond .eq 21, 3) := by decide +kernel
theorem dX8_spell_25 : decode cX8_spell 25 = .ok (.aload_n 0, 1) := by decide +kernel
theorem dX8_spell_26 : decode cX8_spell 26 = .ok (.getfield 252, 3) := by decide +kernel
theorem dX8_spell_29 : decode cX8_spell 29 = .ok (.ifCond .le 9, 3) := by decide +kernel
theorem dX8_spell_32 : decode cX8_spell 32 = .ok (.aload_n 0, 1) := by decide +kernel
theorem dX8_spell_33 : decode cX8_spell 33 = .ok (.bipush 32, 2) := by decide +kernel
theorem dX8_spell_35 : decode cX8_spell 35 = .ok (.invokevirtual 255, 3) := by decide +kernel
theorem dX8_spell_38 : decode cX8_spell 38 = .ok (.aload_n 0, 1) := by decide +kernel
theorem dX8_spell_39 : decode cX8_spell 39 = .ok (.iload_n 1, 1) := by decide +kernel
theorem dX8_spell_40 : decode cX8_spell 40 = .ok (.invokevirtual 258, 3) := by decide +kernel
theorem dX8_spell_43 : decode cX8_spell 43 = .ok (.iinc 1 1, 3) := by decide +kernel
theorem dX8_spell_46 : decode cX8_spell 46 = .ok (.goto (-39), 3) := by decide +kernel
theorem dX8_spell_49 : decode cX8_spell 49 = .ok (.aload_n 0, 1) := by decide +kernel
theorem dX8_spell_50 : decode cX8_spell 50 = .ok (.getfield 252, 3) := by decide +kernel
theorem dX8_spell_53 : decode cX8_spell 53 = .ok (.ireturn, 1) := by decide +kernel
theorem dX8_paper_0 : decode cX8_paper 0 = .ok (.iload_n 1, 1) := by decide +kernel
theorem dX8_paper_1 : decode cX8_paper 1 = .ok (.ifCond .lt 11, 3) := by decide +kernel
theorem dX8_paper_4 : decode cX8_paper 4 = .ok (.iload_n 1, 1) := by decide +kernel
theorem dX8_paper_5 : decode cX8_paper 5 = .ok (.aload_n 0, 1) := by decide +kernel
theorem dX8_paper_6 : decode cX8_paper 6 = .ok (.getfield 252, 3) := by decide +kernel
theorem dX8_paper_9 : decode cX8_paper 9 = .ok (.if_icmp .lt 5, 3) := by decide +kernel
theorem dX8_paper_12 : decode cX8_paper 12 = .ok (.iconst (-1), 1) := by decide +kernel
theorem dX8_paper_13 : decode cX8_paper 13 = .ok (.ireturn, 1) := by decide +kernel
theorem dX8_paper_14 : decode cX8_paper 14 = .ok (.aload_n 0, 1) := by decide +kernel
theorem dX8_paper_15 : decode cX8_paper 15 = .ok (.getfield 77, 3) := by decide +kernel
theorem dX8_paper_18 : decode cX8_paper 18 = .ok (.iload_n 1, 1) := by decide +kernel
theorem dX8_paper_19 : decode cX8_paper 19 = .ok (.baload, 1) := by decide +kernel
theorem dX8_paper_20 : decode cX8_paper 20 = .ok (.ireturn, 1) := by decide +kernel
theorem dX8_judge_0 : decode cX8_judge 0 = .ok (.aload_n 0, 1) := by decide +kernel
theorem dX8_judge_1 : decode cX8_judge 1 = .ok (.getfield 66, 3) := by decide +kernel
theorem dX8_judge_4 : decode cX8_judge 4 = .ok (.iload_n 1, 1) := by decide +kernel
theorem dX8_judge_5 : decode cX8_judge 5 = .ok (.invokevirtual 157, 3) := by decide +kernel
theorem dX8_judge_8 : decode cX8_judge 8 = .ok (.istore_n 2, 1) := by decide +kernel
theorem dX8_judge_9 : decode cX8_judge 9 = .ok (.iload_n 2, 1) := by decide +kernel
theorem dX8_judge_10 : decode cX8_judge 10 = .ok (.ifCond .ge 5, 3) := by decide +kernel
theorem dX8_judge_13 : decode cX8_judge 13 = .ok (.iload_n 2, 1) := by decide +kernel
theorem dX8_judge_14 : decode cX8_judge 14 = .ok (.ireturn, 1) := by decide +kernel
theorem dX8_judge_15 : decode cX8_judge 15 = .ok (.aload_n 0, 1) := by decide +kernel
theorem dX8_judge_16 : decode cX8_judge 16 = .ok (.getfield 66, 3) := by decide +kernel
theorem dX8_judge_19 : decode cX8_judge 19 = .ok (.iload_n 1, 1) := by decide +kernel
theorem dX8_judge_20 : decode cX8_judge 20 = .ok (.invokevirtual 163, 3) := by decide +kernel
theorem dX8_judge_23 : decode cX8_judge 23 = .ok (.istore_n 3, 1) := by decide +kernel
theorem dX8_judge_24 : decode cX8_judge 24 = .ok (.iconst 0, 1) := by decide +kernel
theorem dX8_judge_25 : decode cX8_judge 25 = .ok (.istore 4, 2) := by decide +kernel
theorem dX8_judge_27 : decode cX8_judge 27 = .ok (.iconst 1, 1) := by decide +kernel
theorem dX8_judge_28 : decode cX8_judge 28 = .ok (.istore 5, 2) := by decide +kernel
theorem dX8_judge_30 : decode cX8_judge 30 = .ok (.iload 5, 2) := by decide +kernel
theorem dX8_judge_32 : decode cX8_judge 32 = .ok (.sipush 256, 3) := by decide +kernel
theorem dX8_judge_35 : decode cX8_judge 35 = .ok (.if_icmp .ge 48, 3) := by decide +kernel
theorem dX8_judge_38 : decode cX8_judge 38 = .ok (.aload_n 0, 1) := by decide +kernel
theorem dX8_judge_39 : decode cX8_judge 39 = .ok (.getfield 12, 3) := by decide +kernel
theorem dX8_judge_42 : decode cX8_judge 42 = .ok (.iload 5, 2) := by decide +kernel
theorem dX8_judge_44 : decode cX8_judge 44 = .ok (.invokevirtual 228, 3) := by decide +kernel
theorem dX8_judge_47 : decode cX8_judge 47 = .ok (.ifCond .eq 30, 3) := by decide +kernel
theorem dX8_judge_50 : decode cX8_judge 50 = .ok (.iload 4, 2) := by decide +kernel
theorem dX8_judge_52 : decode cX8_judge 52 = .ok (.iload_n 3, 1) := by decide +kernel
theorem dX8_judge_53 : decode cX8_judge 53 = .ok (.if_icmp .ge 18, 3) := by decide +kernel
theorem dX8_judge_56 : decode cX8_judge 56 = .ok (.aload_n 0, 1) := by decide +kernel
theorem dX8_judge_57 : decode cX8_judge 57 = .ok (.getfield 66, 3) := by decide +kernel
theorem dX8_judge_60 : decode cX8_judge 60 = .ok (.iload_n 1, 1) := by decide +kernel
theorem dX8_judge_61 : decode cX8_judge 61 = .ok (.iload 4, 2) := by decide +kernel
theorem dX8_judge_63 : decode cX8_judge 63 = .ok (.invokevirtual 192, 3) := by decide +kernel
theorem dX8_judge_66 : decode cX8_judge 66 = .ok (.iload 5, 2) := by decide +kernel
theorem dX8_judge_68 : decode cX8_judge 68 = .ok (.if_icmp .eq 6, 3) := by decide +kernel
theorem dX8_judge_71 : decode cX8_judge 71 = .ok (.iload 4, 2) := by decide +kernel
theorem dX8_judge_73 : decode cX8_judge 73 = .ok (.ireturn, 1) := by decide +kernel
theorem dX8_judge_74 : decode cX8_judge 74 = .ok (.iinc 4 1, 3) := by decide +kernel
theorem dX8_judge_77 : decode cX8_judge 77 = .ok (.iinc 5 1, 3) := by decide +kernel
theorem dX8_judge_80 : decode cX8_judge 80 = .ok (.goto (-50), 3) := by decide +kernel
theorem dX8_judge_83 : decode cX8_judge 83 = .ok (.iload 4, 2) := by decide +kernel
theorem dX8_judge_85 : decode cX8_judge 85 = .ok (.iload_n 3, 1) := by decide +kernel
theorem dX8_judge_86 : decode cX8_judge 86 = .ok (.if_icmp .ge 8, 3) := by decide +kernel
theorem dX8_judge_89 : decode cX8_judge 89 = .ok (.iload 4, 2) := by decide +kernel
theorem dX8_judge_91 : decode cX8_judge 91 = .ok (.goto 5, 3) := by decide +kernel
theorem dX8_judge_94 : decode cX8_judge 94 = .ok (.bipush (-5), 2) := by decide +kernel
theorem dX8_judge_96 : decode cX8_judge 96 = .ok (.ireturn, 1) := by decide +kernel
theorem dX8_list_0 : decode cX8_list 0 = .ok (.aload_n 0, 1) := by decide +kernel
theorem dX8_list_1 : decode cX8_list 1 = .ok (.getfield 66, 3) := by decide +kernel
theorem dX8_list_4 : decode cX8_list 4 = .ok (.iload_n 1, 1) := by decide +kernel
theorem dX8_list_5 : decode cX8_list 5 = .ok (.invokevirtual 189, 3) := by decide +kernel
theorem dX8_list_8 : decode cX8_list 8 = .ok (.ifCond .ne 5, 3) := by decide +kernel
theorem dX8_list_11 : decode cX8_list 11 = .ok (.iconst (-1), 1) := by decide +kernel
theorem dX8_list_12 : decode cX8_list 12 = .ok (.ireturn, 1) := by decide +kernel
theorem dX8_list_13 : decode cX8_list 13 = .ok (.iload_n 2, 1) := by decide +kernel
theorem dX8_list_14 : decode cX8_list 14 = .ok (.bipush 40, 2) := by decide +kernel
theorem dX8_list_16 : decode cX8_list 16 = .ok (.if_icmp .le 6, 3) := by decide +kernel
theorem dX8_list_19 : decode cX8_list 19 = .ok (.bipush (-2), 2) := by decide +kernel
theorem dX8_list_21 : decode cX8_list 21 = .ok (.ireturn, 1) := by decide +kernel
theorem dX8_list_22 : decode cX8_list 22 = .ok (.iload_n 2, 1) := by decide +kernel
theorem dX8_list_23 : decode cX8_list 23 = .ok (.ifCond .ge 6, 3) := by decide +kernel
theorem dX8_list_26 : decode cX8_list 26 = .ok (.bipush (-14), 2) := by decide +kernel
theorem dX8_list_28 : decode cX8_list 28 = .ok (.ireturn, 1) := by decide +kernel
theorem dX8_list_29 : decode cX8_list 29 = .ok (.aload_n 0, 1) := by decide +kernel
theorem dX8_list_30 : decode cX8_list 30 = .ok (.getfield 66, 3) := by decide +kernel
theorem dX8_list_33 : decode cX8_list 33 = .ok (.iload_n 1, 1) := by decide +kernel
theorem dX8_list_34 : decode cX8_list 34 = .ok (.iload_n 2, 1) := by decide +kernel
theorem dX8_list_35 : decode cX8_list 35 = .ok (.invokevirtual 261, 3) := by decide +kernel
theorem dX8_list_38 : decode cX8_list 38 = .ok (.iconst 1, 1) := by decide +kernel
theorem dX8_list_39 : decode cX8_list 39 = .ok (.ireturn, 1) := by decide +kernel
theorem dX8_put_0 : decode cX8_put 0 = .ok (.aload_n 0, 1) := by decide +kernel
theorem dX8_put_1 : decode cX8_put 1 = .ok (.getfield 66, 3) := by decide +kernel
theorem dX8_put_4 : decode cX8_put 4 = .ok (.iload_n 1, 1) := by decide +kernel
theorem dX8_put_5 : decode cX8_put 5 = .ok (.invokevirtual 157, 3) := by decide +kernel
theorem dX8_put_8 : decode cX8_put 8 = .ok (.istore 4, 2) := by decide +kernel
theorem dX8_put_10 : decode cX8_put 10 = .ok (.iload 4, 2) := by decide +kernel
theorem dX8_put_12 : decode cX8_put 12 = .ok (.ifCond .ge 6, 3) := by decide +kernel
theorem dX8_put_15 : decode cX8_put 15 = .ok (.iload 4, 2) := by decide +kernel
theorem dX8_put_17 : decode cX8_put 17 = .ok (.ireturn, 1) := by decide +kernel
theorem dX8_put_18 : decode cX8_put 18 = .ok (.iload_n 2, 1) := by decide +kernel
theorem dX8_put_19 : decode cX8_put 19 = .ok (.ifCond .lt 15, 3) := by decide +kernel
theorem dX8_put_22 : decode cX8_put 22 = .ok (.iload_n 2, 1) := by decide +kernel
theorem dX8_put_23 : decode cX8_put 23 = .ok (.aload_n 0, 1) := by decide +kernel
theorem dX8_put_24 : decode cX8_put 24 = .ok (.getfield 66, 3) := by decide +kernel
theorem dX8_put_27 : decode cX8_put 27 = .ok (.iload_n 1, 1) := by decide +kernel
theorem dX8_put_28 : decode cX8_put 28 = .ok (.invokevirtual 163, 3) := by decide +kernel
theorem dX8_put_31 : decode cX8_put 31 = .ok (.if_icmp .lt 6, 3) := by decide +kernel
theorem dX8_put_34 : decode cX8_put 34 = .ok (.bipush (-13), 2) := by decide +kernel
theorem dX8_put_36 : decode cX8_put 36 = .ok (.ireturn, 1) := by decide +kernel
theorem dX8_put_37 : decode cX8_put 37 = .ok (.aload_n 0, 1) := by decide +kernel
theorem dX8_put_38 : decode cX8_put 38 = .ok (.getfield 66, 3) := by decide +kernel
theorem dX8_put_41 : decode cX8_put 41 = .ok (.iload_n 1, 1) := by decide +kernel
theorem dX8_put_42 : decode cX8_put 42 = .ok (.iload_n 2, 1) := by decide +kernel
theorem dX8_put_43 : decode cX8_put 43 = .ok (.iload_n 3, 1) := by decide +kernel
theorem dX8_put_44 : decode cX8_put 44 = .ok (.invokevirtual 265, 3) := by decide +kernel
theorem dX8_put_47 : decode cX8_put 47 = .ok (.iconst 1, 1) := by decide +kernel
theorem dX8_put_48 : decode cX8_put 48 = .ok (.ireturn, 1) := by decide +kernel
theorem dX8_get_0 : decode cX8_get 0 = .ok (.aload_n 0, 1) := by decide +kernel
theorem dX8_get_1 : decode cX8_get 1 = .ok (.getfield 66, 3) := by decide +kernel
theorem dX8_get_4 : decode cX8_get 4 = .ok (.iload_n 1, 1) := by decide +kernel
theorem dX8_get_5 : decode cX8_get 5 = .ok (.invokevirtual 157, 3) := by decide +kernel
theorem dX8_get_8 : decode cX8_get 8 = .ok (.ifCond .lt 19, 3) := by decide +kernel
theorem dX8_get_11 : decode cX8_get 11 = .ok (.iload_n 2, 1) := by decide +kernel
theorem dX8_get_12 : decode cX8_get 12 = .ok (.ifCond .lt 15, 3) := by decide +kernel
theorem dX8_get_15 : decode cX8_get 15 = .ok (.iload_n 2, 1) := by decide +kernel
theorem dX8_get_16 : decode cX8_get 16 = .ok (.aload_n 0, 1) := by decide +kernel
theorem dX8_get_17 : decode cX8_get 17 = .ok (.getfield 66, 3) := by decide +kernel
theorem dX8_get_20 : decode cX8_get 20 = .ok (.iload_n 1, 1) := by decide +kernel
theorem dX8_get_21 : decode cX8_get 21 = .ok (.invokevirtual 163, 3) := by decide +kernel
theorem dX8_get_24 : decode cX8_get 24 = .ok (.if_icmp .lt 7, 3) := by decide +kernel
theorem dX8_get_27 : decode cX8_get 27 = .ok (.ldc2_w 269, 3) := by decide +kernel
theorem dX8_get_30 : decode cX8_get 30 = .ok (.lreturn, 1) := by decide +kernel
theorem dX8_get_31 : decode cX8_get 31 = .ok (.aload_n 0, 1) := by decide +kernel
theorem dX8_get_32 : decode cX8_get 32 = .ok (.getfield 66, 3) := by decide +kernel
theorem dX8_get_35 : decode cX8_get 35 = .ok (.iload_n 1, 1) := by decide +kernel
theorem dX8_get_36 : decode cX8_get 36 = .ok (.iload_n 2, 1) := by decide +kernel
theorem dX8_get_37 : decode cX8_get 37 = .ok (.invokevirtual 192, 3) := by decide +kernel
theorem dX8_get_40 : decode cX8_get 40 = .ok (.i2l, 1) := by decide +kernel
theorem dX8_get_41 : decode cX8_get 41 = .ok (.lreturn, 1) := by decide +kernel
theorem dX8_copy_0 : decode cX8_copy 0 = .ok (.aload_n 0, 1) := by decide +kernel
theorem dX8_copy_1 : decode cX8_copy 1 = .ok (.getfield 66, 3) := by decide +kernel
theorem dX8_copy_4 : decode cX8_copy 4 = .ok (.iload_n 1, 1) := by decide +kernel
theorem dX8_copy_5 : decode cX8_copy 5 = .ok (.invokevirtual 189, 3) := by decide +kernel
theorem dX8_copy_8 : decode cX8_copy 8 = .ok (.ifCond .eq 14, 3) := by decide +kernel
theorem dX8_copy_11 : decode cX8_copy 11 = .ok (.aload_n 0, 1) := by decide +kernel
theorem dX8_copy_12 : decode cX8_copy 12 = .ok (.getfield 66, 3) := by decide +kernel
theorem dX8_copy_15 : decode cX8_copy 15 = .ok (.iload_n 3, 1) := by decide +kernel
theorem dX8_copy_16 : decode cX8_copy 16 = .ok (.invokevirtual 189, 3) := by decide +kernel
theorem dX8_copy_19 : decode cX8_copy 19 = .ok (.ifCond .ne 5, 3) := by decide +kernel
theorem dX8_copy_22 : decode cX8_copy 22 = .ok (.iconst (-1), 1) := by decide +kernel
theorem dX8_copy_23 : decode cX8_copy 23 = .ok (.ireturn, 1) := by decide +kernel
theorem dX8_copy_24 : decode cX8_copy 24 = .ok (.aload_n 0, 1) := by decide +kernel
theorem dX8_copy_25 : decode cX8_copy 25 = .ok (.getfield 66, 3) := by decide +kernel
theorem dX8_copy_28 : decode cX8_copy 28 = .ok (.iload_n 1, 1) := by decide +kernel
theorem dX8_copy_29 : decode cX8_copy 29 = .ok (.invokevirtual 157, 3) := by decide +kernel
theorem dX8_copy_32 : decode cX8_copy 32 = .ok (.ifCond .lt 14, 3) := by decide +kernel
theorem dX8_copy_35 : decode cX8_copy 35 = .ok (.aload_n 0, 1) := by decide +kernel
theorem dX8_copy_36 : decode cX8_copy 36 = .ok (.getfield 66, 3) := by decide +kernel
theorem dX8_copy_39 : decode cX8_copy 39 = .ok (.iload_n 3, 1) := by decide +kernel
theorem dX8_copy_40 : decode cX8_copy 40 = .ok (.invokevirtual 157, 3) := by decide +kernel
theorem dX8_copy_43 : decode cX8_copy 43 = .ok (.ifCond .ge 6, 3) := by decide +kernel
theorem dX8_copy_46 : decode cX8_copy 46 = .ok (.bipush (-11), 2) := by decide +kernel
theorem dX8_copy_48 : decode cX8_copy 48 = .ok (.ireturn, 1) := by decide +kernel
theorem dX8_copy_49 : decode cX8_copy 49 = .ok (.iload 5, 2) := by decide +kernel
theorem dX8_copy_51 : decode cX8_copy 51 = .ok (.ifCond .lt 12, 3) := by decide +kernel
theorem dX8_copy_54 : decode cX8_copy 54 = .ok (.iload_n 2, 1) := by decide +kernel
theorem dX8_copy_55 : decode cX8_copy 55 = .ok (.ifCond .lt 8, 3) := by decide +kernel
theorem dX8_copy_58 : decode cX8_copy 58 = .ok (.iload 4, 2) := by decide +kernel
theorem dX8_copy_60 : decode cX8_copy 60 = .ok (.ifCond .ge 6, 3) := by decide +kernel
theorem dX8_copy_63 : decode cX8_copy 63 = .ok (.bipush (-13), 2) := by decide +kernel
theorem dX8_copy_65 : decode cX8_copy 65 = .ok (.ireturn, 1) := by decide +kernel
theorem dX8_copy_66 : decode cX8_copy 66 = .ok (.iload_n 2, 1) := by decide +kernel
theorem dX8_copy_67 : decode cX8_copy 67 = .ok (.aload_n 0, 1) := by decide +kernel
theorem dX8_copy_68 : decode cX8_copy 68 = .ok (.getfield 66, 3) := by decide +kernel
theorem dX8_copy_71 : decode cX8_copy 71 = .ok (.iload_n 1, 1) := by decide +kernel
theorem dX8_copy_72 : decode cX8_copy 72 = .ok (.invokevirtual 163, 3) := by decide +kernel
theorem dX8_copy_75 : decode cX8_copy 75 = .ok (.iload 5, 2) := by decide +kernel
theorem dX8_copy_77 : decode cX8_copy 77 = .ok (.isub, 1) := by decide +kernel
theorem dX8_copy_78 : decode cX8_copy 78 = .ok (.if_icmp .gt 19, 3) := by decide +kernel
theorem dX8_copy_81 : decode cX8_copy 81 = .ok (.iload 4, 2) := by decide +kernel
theorem dX8_copy_83 : decode cX8_copy 83 = .ok (.aload_n 0, 1) := by decide +kernel
theorem dX8_copy_84 : decode cX8_copy 84 = .ok (.getfield 66, 3) := by decide +kernel
theorem dX8_copy_87 : decode cX8_copy 87 = .ok (.iload_n 3, 1) := by decide +kernel
theorem dX8_copy_88 : decode cX8_copy 88 = .ok (.invokevirtual 163, 3) := by decide +kernel
theorem dX8_copy_91 : decode cX8_copy 91 = .ok (.iload 5, 2) := by decide +kernel
theorem dX8_copy_93 : decode cX8_copy 93 = .ok (.isub, 1) := by decide +kernel
theorem dX8_copy_94 : decode cX8_copy 94 = .ok (.if_icmp .le 6, 3) := by decide +kernel
theorem dX8_copy_97 : decode cX8_copy 97 = .ok (.bipush (-13), 2) := by decide +kernel
theorem dX8_copy_99 : decode cX8_copy 99 = .ok (.ireturn, 1) := by decide +kernel
theorem dX8_copy_100 : decode cX8_copy 100 = .ok (.aload_n 0, 1) := by decide +kernel
theorem dX8_copy_101 : decode cX8_copy 101 = .ok (.getfield 66, 3) := by decide +kernel
theorem dX8_copy_104 : decode cX8_copy 104 = .ok (.iload_n 1, 1) := by decide +kernel
theorem dX8_copy_105 : decode cX8_copy 105 = .ok (.iload_n 2, 1) := by decide +kernel
theorem dX8_copy_106 : decode cX8_copy 106 = .ok (.iload_n 3, 1) := by decide +kernel
theorem dX8_copy_107 : decode cX8_copy 107 = .ok (.iload 4, 2) := by decide +kernel
theorem dX8_copy_109 : decode cX8_copy 109 = .ok (.iload 5, 2) := by decide +kernel
theorem dX8_copy_111 : decode cX8_copy 111 = .ok (.invokevirtual 271, 3) := by decide +kernel
theorem dX8_copy_114 : decode cX8_copy 114 = .ok (.iload 5, 2) := by decide +kernel
theorem dX8_copy_116 : decode cX8_copy 116 = .ok (.ireturn, 1) := by decide +kernel
theorem dX8_count_0 : decode cX8_count 0 = .ok (.iload_n 1, 1) := by decide +kernel
theorem dX8_count_1 : decode cX8_count 1 = .ok (.tableswitch 72 0 4 #[35, 43, 51, 59, 67], 35) := by decide +kernel
theorem dX8_count_36 : decode cX8_count 36 = .ok (.aload_n 0, 1) := by decide +kernel
theorem dX8_count_37 : decode cX8_count 37 = .ok (.getfield 12, 3) := by decide +kernel
theorem dX8_count_40 : decode cX8_count 40 = .ok (.invokevirtual 99, 3) := by decide +kernel
theorem dX8_count_43 : decode cX8_count 43 = .ok (.ireturn, 1) := by decide +kernel
theorem dX8_count_44 : decode cX8_count 44 = .ok (.aload_n 0, 1) := by decide +kernel
theorem dX8_count_45 : decode cX8_count 45 = .ok (.getfield 35, 3) := by decide +kernel
theorem dX8_count_48 : decode cX8_count 48 = .ok (.getfield 211, 3) := by decide +kernel
theorem dX8_count_51 : decode cX8_count 51 = .ok (.ireturn, 1) := by decide +kernel
theorem dX8_count_52 : decode cX8_count 52 = .ok (.aload_n 0, 1) := by decide +kernel
theorem dX8_count_53 : decode cX8_count 53 = .ok (.getfield 28, 3) := by decide +kernel
theorem dX8_count_56 : decode cX8_count 56 = .ok (.getfield 202, 3) := by decide +kernel
theorem dX8_count_59 : decode cX8_count 59 = .ok (.ireturn, 1) := by decide +kernel
theorem dX8_count_60 : decode cX8_count 60 = .ok (.aload_n 0, 1) := by decide +kernel
theorem dX8_count_61 : decode cX8_count 61 = .ok (.getfield 73, 3) := by decide +kernel
theorem dX8_count_64 : decode cX8_count 64 = .ok (.getfield 240, 3) := by decide +kernel
theorem dX8_count_67 : decode cX8_count 67 = .ok (.ireturn, 1) := by decide +kernel
theorem dX8_count_68 : decode cX8_count 68 = .ok (.aload_n 0, 1) := by decide +kernel
theorem dX8_count_69 : decode cX8_count 69 = .ok (.getfield 252, 3) := by decide +kernel
theorem dX8_count_72 : decode cX8_count 72 = .ok (.ireturn, 1) := by decide +kernel
theorem dX8_count_73 : decode cX8_count 73 = .ok (.bipush (-2), 2) := by decide +kernel
theorem dX8_count_75 : decode cX8_count 75 = .ok (.ireturn, 1) := by decide +kernel
theorem dX8_isSet_0 : decode cX8_isSet 0 = .ok (.iload_n 0, 1) := by decide +kernel
theorem dX8_isSet_1 : decode cX8_isSet 1 = .ok (.ifCond .le 14, 3) := by decide +kernel
theorem dX8_isSet_4 : decode cX8_isSet 4 = .ok (.iload_n 0, 1) := by decide +kernel
theorem dX8_isSet_5 : decode cX8_isSet 5 = .ok (.sipush 256, 3) := by decide +kernel
theorem dX8_isSet_8 : decode cX8_isSet 8 = .ok (.if_icmp .ge 7, 3) := by decide +kernel
theorem dX8_isSet_11 : decode cX8_isSet 11 = .ok (.iconst 1, 1) := by decide +kernel
theorem dX8_isSet_12 : decode cX8_isSet 12 = .ok (.goto 4, 3) := by decide +kernel
theorem dX8_isSet_15 : decode cX8_isSet 15 = .ok (.iconst 0, 1) := by decide +kernel
theorem dX8_isSet_16 : decode cX8_isSet 16 = .ok (.ireturn, 1) := by decide +kernel
theorem dX8_obey_0 : decode cX8_obey 0 = .ok (.aload_n 0, 1) := by decide +kernel
theorem dX8_obey_1 : decode cX8_obey 1 = .ok (.getfield 73, 3) := by decide +kernel
theorem dX8_obey_4 : decode cX8_obey 4 = .ok (.getfield 275, 3) := by decide +kernel
theorem dX8_obey_7 : decode cX8_obey 7 = .ok (.iload_n 1, 1) := by decide +kernel
theorem dX8_obey_8 : decode cX8_obey 8 = .ok (.iaload, 1) := by decide +kernel
theorem dX8_obey_9 : decode cX8_obey 9 = .ok (.istore_n 2, 1) := by decide +kernel
theorem dX8_obey_10 : decode cX8_obey 10 = .ok (.iload_n 2, 1) := by decide +kernel
theorem dX8_obey_11 : decode cX8_obey 11 = .ok (.iconst 5, 1) := by decide +kernel
theorem dX8_obey_12 : decode cX8_obey 12 = .ok (.if_icmp .gt 9, 3) := by decide +kernel
theorem dX8_obey_15 : decode cX8_obey 15 = .ok (.aload_n 0, 1) := by decide +kernel
theorem dX8_obey_16 : decode cX8_obey 16 = .ok (.iload_n 2, 1) := by decide +kernel
theorem dX8_obey_17 : decode cX8_obey 17 = .ok (.invokevirtual 278, 3) := by decide +kernel
theorem dX8_obey_20 : decode cX8_obey 20 = .ok (.ireturn, 1) := by decide +kernel
theorem dX8_obey_21 : decode cX8_obey 21 = .ok (.iload_n 2, 1) := by decide +kernel
theorem dX8_obey_22 : decode cX8_obey 22 = .ok (.tableswitch 94 6 11 #[38, 44, 50, 63, 68, 81], 38) := by decide +kernel
theorem dX8_obey_60 : decode cX8_obey 60 = .ok (.aload_n 0, 1) := by decide +kernel
theorem dX8_obey_61 : decode cX8_obey 61 = .ok (.iconst 3, 1) := by decide +kernel
theorem dX8_obey_62 : decode cX8_obey 62 = .ok (.invokevirtual 281, 3) := by decide +kernel
theorem dX8_obey_65 : decode cX8_obey 65 = .ok (.ireturn, 1) := by decide +kernel
theorem dX8_obey_66 : decode cX8_obey 66 = .ok (.aload_n 0, 1) := by decide +kernel
theorem dX8_obey_67 : decode cX8_obey 67 = .ok (.iconst 4, 1) := by decide +kernel
theorem dX8_obey_68 : decode cX8_obey 68 = .ok (.invokevirtual 281, 3) := by decide +kernel
theorem dX8_obey_71 : decode cX8_obey 71 = .ok (.ireturn, 1) := by decide +kernel
theorem dX8_obey_72 : decode cX8_obey 72 = .ok (.aload_n 0, 1) := by decide +kernel
theorem dX8_obey_73 : decode cX8_obey 73 = .ok (.aload_n 0, 1) := by decide +kernel
theorem dX8_obey_74 : decode cX8_obey 74 = .ok (.getfield 73, 3) := by decide +kernel
theorem dX8_obey_77 : decode cX8_obey 77 = .ok (.iload_n 1, 1) := by decide +kernel
theorem dX8_obey_78 : decode cX8_obey 78 = .ok (.invokevirtual 284, 3) := by decide +kernel
theorem dX8_obey_81 : decode cX8_obey 81 = .ok (.invokevirtual 287, 3) := by decide +kernel
theorem dX8_obey_84 : decode cX8_obey 84 = .ok (.ireturn, 1) := by decide +kernel
theorem dX8_obey_85 : decode cX8_obey 85 = .ok (.aload_n 0, 1) := by decide +kernel
theorem dX8_obey_86 : decode cX8_obey 86 = .ok (.invokevirtual 290, 3) := by decide +kernel
theorem dX8_obey_89 : decode cX8_obey 89 = .ok (.ireturn, 1) := by decide +kernel
theorem dX8_obey_90 : decode cX8_obey 90 = .ok (.aload_n 0, 1) := by decide +kernel
theorem dX8_obey_91 : decode cX8_obey 91 = .ok (.aload_n 0, 1) := by decide +kernel
theorem dX8_obey_92 : decode cX8_obey 92 = .ok (.getfield 73, 3) := by decide +kernel
theorem dX8_obey_95 : decode cX8_obey 95 = .ok (.iload_n 1, 1) := by decide +kernel
theorem dX8_obey_96 : decode cX8_obey 96 = .ok (.invokevirtual 284, 3) := by decide +kernel
theorem dX8_obey_99 : decode cX8_obey 99 = .ok (.invokevirtual 293, 3) := by decide +kernel
theorem dX8_obey_102 : decode cX8_obey 102 = .ok (.ireturn, 1) := by decide +kernel
theorem dX8_obey_103 : decode cX8_obey 103 = .ok (.aload_n 0, 1) := by decide +kernel
theorem dX8_obey_104 : decode cX8_obey 104 = .ok (.aload_n 0, 1) := by decide +kernel
theorem dX8_obey_105 : decode cX8_obey 105 = .ok (.getfield 73, 3) := by decide +kernel
theorem dX8_obey_108 : decode cX8_obey 108 = .ok (.iload_n 1, 1) := by decide +kernel
theorem dX8_obey_109 : decode cX8_obey 109 = .ok (.invokevirtual 296, 3) := by decide +kernel
theorem dX8_obey_112 : decode cX8_obey 112 = .ok (.invokevirtual 299, 3) := by decide +kernel
theorem dX8_obey_115 : decode cX8_obey 115 = .ok (.ireturn, 1) := by decide +kernel
theorem dX8_obey_116 : decode cX8_obey 116 = .ok (.iconst (-1), 1) := by decide +kernel
theorem dX8_obey_117 : decode cX8_obey 117 = .ok (.ireturn, 1) := by decide +kernel
theorem dX8_writePoints_0 : decode cX8_writePoints 0 = .ok (.iconst 0, 1) := by decide +kernel
theorem dX8_writePoints_1 : decode cX8_writePoints 1 = .ok (.istore_n 2, 1) := by decide +kernel
theorem dX8_writePoints_2 : decode cX8_writePoints 2 = .ok (.iload_n 2, 1) := by decide +kernel
theorem dX8_writePoints_3 : decode cX8_writePoints 3 = .ok (.bipush 8, 2) := by decide +kernel
theorem dX8_writePoints_5 : decode cX8_writePoints 5 = .ok (.if_icmp .ge 26, 3) := by decide +kernel
theorem dX8_writePoints_8 : decode cX8_writePoints 8 = .ok (.iload_n 1, 1) := by decide +kernel
theorem dX8_writePoints_9 : decode cX8_writePoints 9 = .ok (.iload_n 2, 1) := by decide +kernel
theorem dX8_writePoints_10 : decode cX8_writePoints 10 = .ok (.ishr, 1) := by decide +kernel
theorem dX8_writePoints_11 : decode cX8_writePoints 11 = .ok (.iconst 1, 1) := by decide +kernel
theorem dX8_writePoints_12 : decode cX8_writePoints 12 = .ok (.iand, 1) := by decide +kernel
theorem dX8_writePoints_13 : decode cX8_writePoints 13 = .ok (.iconst 1, 1) := by decide +kernel
theorem dX8_writePoints_14 : decode cX8_writePoints 14 = .ok (.if_icmp .ne 11, 3) := by decide +kernel
theorem dX8_writePoints_17 : decode cX8_writePoints 17 = .ok (.aload_n 0, 1) := by decide +kernel
theorem dX8_writePoints_18 : decode cX8_writePoints 18 = .ok (.bipush 48, 2) := by decide +kernel
theorem dX8_writePoints_20 : decode cX8_writePoints 20 = .ok (.iload_n 2, 1) := by decide +kernel
theorem dX8_writePoints_21 : decode cX8_writePoints 21 = .ok (.iadd, 1) := by decide +kernel
theorem dX8_writePoints_22 : decode cX8_writePoints 22 = .ok (.invokevirtual 255, 3) := by decide +kernel
theorem dX8_writePoints_25 : decode cX8_writePoints 25 = .ok (.iinc 2 1, 3) := by decide +kernel
theorem dX8_writePoints_28 : decode cX8_writePoints 28 = .ok (.goto (-26), 3) := by decide +kernel
theorem dX8_writePoints_31 : decode cX8_writePoints 31 = .ok (.return_, 1) := by decide +kernel
theorem dX8_write_0 : decode cX8_write 0 = .ok (.aload_n 0, 1) := by decide +kernel
theorem dX8_write_1 : decode cX8_write 1 = .ok (.getfield 252, 3) := by decide +kernel
theorem dX8_write_4 : decode cX8_write 4 = .ok (.sipush 349, 3) := by decide +kernel
theorem dX8_write_7 : decode cX8_write 7 = .ok (.if_icmp .ge 24, 3) := by decide +kernel
theorem dX8_write_10 : decode cX8_write 10 = .ok (.aload_n 0, 1) := by decide +kernel
theorem dX8_write_11 : decode cX8_write 11 = .ok (.getfield 77, 3) := by decide +kernel
theorem dX8_write_14 : decode cX8_write 14 = .ok (.aload_n 0, 1) := by decide +kernel
theorem dX8_write_15 : decode cX8_write 15 = .ok (.getfield 252, 3) := by decide +kernel
theorem dX8_write_18 : decode cX8_write 18 = .ok (.iload_n 1, 1) := by decide +kernel
theorem dX8_write_19 : decode cX8_write 19 = .ok (.i2b, 1) := by decide +kernel
theorem dX8_write_20 : decode cX8_write 20 = .ok (.bastore, 1) := by decide +kernel
theorem dX8_write_21 : decode cX8_write 21 = .ok (.aload_n 0, 1) := by decide +kernel
theorem dX8_write_22 : decode cX8_write 22 = .ok (.dup, 1) := by decide +kernel
theorem dX8_write_23 : decode cX8_write 23 = .ok (.getfield 252, 3) := by decide +kernel
theorem dX8_write_26 : decode cX8_write 26 = .ok (.iconst 1, 1) := by decide +kernel
theorem dX8_write_27 : decode cX8_write 27 = .ok (.iadd, 1) := by decide +kernel
theorem dX8_write_28 : decode cX8_write 28 = .ok (.putfield 252, 3) := by decide +kernel
theorem dX8_write_31 : decode cX8_write 31 = .ok (.return_, 1) := by decide +kernel
theorem dJ0_length_8abf5_0 : decode cJ0_length_8abf5 0 = .ok (.aload_n 0, 1) := by decide +kernel
theorem dJ0_length_8abf5_1 : decode cJ0_length_8abf5 1 = .ok (.getfield 9, 3) := by decide +kernel
theorem dJ0_length_8abf5_4 : decode cJ0_length_8abf5 4 = .ok (.arraylength, 1) := by decide +kernel
theorem dJ0_length_8abf5_5 : decode cJ0_length_8abf5 5 = .ok (.aload_n 0, 1) := by decide +kernel
theorem dJ0_length_8abf5_6 : decode cJ0_length_8abf5 6 = .ok (.invokevirtual 335, 3) := by decide +kernel
theorem dJ0_length_8abf5_9 : decode cJ0_length_8abf5 9 = .ok (.ishr, 1) := by decide +kernel
theorem dJ0_length_8abf5_10 : decode cJ0_length_8abf5 10 = .ok (.ireturn, 1) := by decide +kernel
theorem dJ0_charAt_5068e_0 : decode cJ0_charAt_5068e 0 = .ok (.aload_n 0, 1) := by decide +kernel
theorem dJ0_charAt_5068e_1 : decode cJ0_charAt_5068e 1 = .ok (.invokevirtual 492, 3) := by decide +kernel
theorem dJ0_charAt_5068e_4 : decode cJ0_charAt_5068e 4 = .ok (.ifCond .eq 12, 3) := by decide +kernel
theorem dJ0_charAt_5068e_7 : decode cJ0_charAt_5068e 7 = .ok (.aload_n 0, 1) := by decide +kernel
theorem dJ0_charAt_5068e_8 : decode cJ0_charAt_5068e 8 = .ok (.getfield 9, 3) := by decide +kernel
theorem dJ0_charAt_5068e_11 : decode cJ0_charAt_5068e 11 = .ok (.iload_n 1, 1) := by decide +kernel
theorem dJ0_charAt_5068e_12 : decode cJ0_charAt_5068e 12 = .ok (.invokestatic 495, 3) := by decide +kernel
theorem dJ0_charAt_5068e_15 : decode cJ0_charAt_5068e 15 = .ok (.ireturn, 1) := by decide +kernel
theorem dJ0_charAt_5068e_16 : decode cJ0_charAt_5068e 16 = .ok (.aload_n 0, 1) := by decide +kernel
theorem dJ0_charAt_5068e_17 : decode cJ0_charAt_5068e 17 = .ok (.getfield 9, 3) := by decide +kernel
theorem dJ0_charAt_5068e_20 : decode cJ0_charAt_5068e 20 = .ok (.iload_n 1, 1) := by decide +kernel
theorem dJ0_charAt_5068e_21 : decode cJ0_charAt_5068e 21 = .ok (.invokestatic 498, 3) := by decide +kernel
theorem dJ0_charAt_5068e_24 : decode cJ0_charAt_5068e 24 = .ok (.ireturn, 1) := by decide +kernel
theorem dJ0_coder_7d493_0 : decode cJ0_coder_7d493 0 = .ok (.getstatic 38, 3) := by decide +kernel
theorem dJ0_coder_7d493_3 : decode cJ0_coder_7d493 3 = .ok (.ifCond .eq 10, 3) := by decide +kernel
theorem dJ0_coder_7d493_6 : decode cJ0_coder_7d493 6 = .ok (.aload_n 0, 1) := by decide +kernel
theorem dJ0_coder_7d493_7 : decode cJ0_coder_7d493 7 = .ok (.getfield 15, 3) := by decide +kernel
theorem dJ0_coder_7d493_10 : decode cJ0_coder_7d493 10 = .ok (.goto 4, 3) := by decide +kernel
theorem dJ0_coder_7d493_13 : decode cJ0_coder_7d493 13 = .ok (.iconst 1, 1) := by decide +kernel
theorem dJ0_coder_7d493_14 : decode cJ0_coder_7d493 14 = .ok (.ireturn, 1) := by decide +kernel
theorem dJ0_isLatin1_aae02_0 : decode cJ0_isLatin1_aae02 0 = .ok (.getstatic 38, 3) := by decide +kernel
theorem dJ0_isLatin1_aae02_3 : decode cJ0_isLatin1_aae02 3 = .ok (.ifCond .eq 14, 3) := by decide +kernel
theorem dJ0_isLatin1_aae02_6 : decode cJ0_isLatin1_aae02 6 = .ok (.aload_n 0, 1) := by decide +kernel
theorem dJ0_isLatin1_aae02_7 : decode cJ0_isLatin1_aae02 7 = .ok (.getfield 15, 3) := by decide +kernel
theorem dJ0_isLatin1_aae02_10 : decode cJ0_isLatin1_aae02 10 = .ok (.ifCond .ne 7, 3) := by decide +kernel
theorem dJ0_isLatin1_aae02_13 : decode cJ0_isLatin1_aae02 13 = .ok (.iconst 1, 1) := by decide +kernel
theorem dJ0_isLatin1_aae02_14 : decode cJ0_isLatin1_aae02 14 = .ok (.goto 4, 3) := by decide +kernel
theorem dJ0_isLatin1_aae02_17 : decode cJ0_isLatin1_aae02 17 = .ok (.iconst 0, 1) := by decide +kernel
theorem dJ0_isLatin1_aae02_18 : decode cJ0_isLatin1_aae02 18 = .ok (.ireturn, 1) := by decide +kernel
theorem dJ0_checkIndex_df160_0 : decode cJ0_checkIndex_df160 0 = .ok (.iload_n 0, 1) := by decide +kernel
theorem dJ0_checkIndex_df160_1 : decode cJ0_checkIndex_df160 1 = .ok (.iload_n 1, 1) := by decide +kernel
theorem dJ0_checkIndex_df160_2 : decode cJ0_checkIndex_df160 2 = .ok (.getstatic 1053, 3) := by decide +kernel
theorem dJ0_checkIndex_df160_5 : decode cJ0_checkIndex_df160 5 = .ok (.invokestatic 1059, 3) := by decide +kernel
theorem dJ0_checkIndex_df160_8 : decode cJ0_checkIndex_df160 8 = .ok (.pop, 1) := by decide +kernel
theorem dJ0_checkIndex_df160_9 : decode cJ0_checkIndex_df160 9 = .ok (.return_, 1) := by decide +kernel
theorem dJ1_charAt_3b067_0 : decode cJ1_charAt_3b067 0 = .ok (.iload_n 1, 1) := by decide +kernel
theorem dJ1_charAt_3b067_1 : decode cJ1_charAt_3b067 1 = .ok (.aload_n 0, 1) := by decide +kernel
theorem dJ1_charAt_3b067_2 : decode cJ1_charAt_3b067 2 = .ok (.arraylength, 1) := by decide +kernel
theorem dJ1_charAt_3b067_3 : decode cJ1_charAt_3b067 3 = .ok (.invokestatic 9, 3) := by decide +kernel
theorem dJ1_charAt_3b067_6 : decode cJ1_charAt_3b067 6 = .ok (.aload_n 0, 1) := by decide +kernel
theorem dJ1_charAt_3b067_7 : decode cJ1_charAt_3b067 7 = .ok (.iload_n 1, 1) := by decide +kernel
theorem dJ1_charAt_3b067_8 : decode cJ1_charAt_3b067 8 = .ok (.baload, 1) := by decide +kernel
theorem dJ1_charAt_3b067_9 : decode cJ1_charAt_3b067 9 = .ok (.sipush 255, 3) := by decide +kernel
theorem dJ1_charAt_3b067_12 : decode cJ1_charAt_3b067 12 = .ok (.iand, 1) := by decide +kernel
theorem dJ1_charAt_3b067_13 : decode cJ1_charAt_3b067 13 = .ok (.i2c, 1) := by decide +kernel
theorem dJ1_charAt_3b067_14 : decode cJ1_charAt_3b067 14 = .ok (.ireturn, 1) := by decide +kernel
theorem dJ2_getChar_3b067_0 : decode cJ2_getChar_3b067 0 = .ok (.getstatic 44, 3) := by decide +kernel
theorem dJ2_getChar_3b067_3 : decode cJ2_getChar_3b067 3 = .ok (.ifCond .ne 25, 3) := by decide +kernel
theorem dJ2_getChar_3b067_6 : decode cJ2_getChar_3b067 6 = .ok (.iload_n 1, 1) := by decide +kernel
theorem dJ2_getChar_3b067_7 : decode cJ2_getChar_3b067 7 = .ok (.ifCond .lt 11, 3) := by decide +kernel
theorem dJ2_getChar_3b067_10 : decode cJ2_getChar_3b067 10 = .ok (.iload_n 1, 1) := by decide +kernel
theorem dJ2_getChar_3b067_11 : decode cJ2_getChar_3b067 11 = .ok (.aload_n 0, 1) := by decide +kernel
theorem dJ2_getChar_3b067_12 : decode cJ2_getChar_3b067 12 = .ok (.invokestatic 48, 3) := by decide +kernel
theorem dJ2_getChar_3b067_15 : decode cJ2_getChar_3b067 15 = .ok (.if_icmp .lt 13, 3) := by decide +kernel
theorem dJ2_getChar_3b067_18 : decode cJ2_getChar_3b067 18 = .ok (.new 52, 3) := by decide +kernel
theorem dJ2_getChar_3b067_21 : decode cJ2_getChar_3b067 21 = .ok (.dup, 1) := by decide +kernel
theorem dJ2_getChar_3b067_22 : decode cJ2_getChar_3b067 22 = .ok (.ldc 54, 2) := by decide +kernel
theorem dJ2_getChar_3b067_24 : decode cJ2_getChar_3b067 24 = .ok (.invokespecial 56, 3) := by decide +kernel
theorem dJ2_getChar_3b067_27 : decode cJ2_getChar_3b067 27 = .ok (.athrow, 1) := by decide +kernel
theorem dJ2_getChar_3b067_28 : decode cJ2_getChar_3b067 28 = .ok (.iload_n 1, 1) := by decide +kernel
theorem dJ2_getChar_3b067_29 : decode cJ2_getChar_3b067 29 = .ok (.iconst 1, 1) := by decide +kernel
theorem dJ2_getChar_3b067_30 : decode cJ2_getChar_3b067 30 = .ok (.ishl, 1) := by decide +kernel
theorem dJ2_getChar_3b067_31 : decode cJ2_getChar_3b067 31 = .ok (.istore_n 1, 1) := by decide +kernel
theorem dJ2_getChar_3b067_32 : decode cJ2_getChar_3b067 32 = .ok (.aload_n 0, 1) := by decide +kernel
theorem dJ2_getChar_3b067_33 : decode cJ2_getChar_3b067 33 = .ok (.iload_n 1, 1) := by decide +kernel
theorem dJ2_getChar_3b067_34 : decode cJ2_getChar_3b067 34 = .ok (.iinc 1 1, 3) := by decide +kernel
theorem dJ2_getChar_3b067_37 : decode cJ2_getChar_3b067 37 = .ok (.baload, 1) := by decide +kernel
theorem dJ2_getChar_3b067_38 : decode cJ2_getChar_3b067 38 = .ok (.sipush 255, 3) := by decide +kernel
theorem dJ2_getChar_3b067_41 : decode cJ2_getChar_3b067 41 = .ok (.iand, 1) := by decide +kernel
theorem dJ2_getChar_3b067_42 : decode cJ2_getChar_3b067 42 = .ok (.getstatic 59, 3) := by decide +kernel
theorem dJ2_getChar_3b067_45 : decode cJ2_getChar_3b067 45 = .ok (.ishl, 1) := by decide +kernel
theorem dJ2_getChar_3b067_46 : decode cJ2_getChar_3b067 46 = .ok (.aload_n 0, 1) := by decide +kernel
theorem dJ2_getChar_3b067_47 : decode cJ2_getChar_3b067 47 = .ok (.iload_n 1, 1) := by decide +kernel
theorem dJ2_getChar_3b067_48 : decode cJ2_getChar_3b067 48 = .ok (.baload, 1) := by decide +kernel
theorem dJ2_getChar_3b067_49 : decode cJ2_getChar_3b067 49 = .ok (.sipush 255, 3) := by decide +kernel
theorem dJ2_getChar_3b067_52 : decode cJ2_getChar_3b067 52 = .ok (.iand, 1) := by decide +kernel
theorem dJ2_getChar_3b067_53 : decode cJ2_getChar_3b067 53 = .ok (.getstatic 63, 3) := by decide +kernel
theorem dJ2_getChar_3b067_56 : decode cJ2_getChar_3b067 56 = .ok (.ishl, 1) := by decide +kernel
theorem dJ2_getChar_3b067_57 : decode cJ2_getChar_3b067 57 = .ok (.ior, 1) := by decide +kernel
theorem dJ2_getChar_3b067_58 : decode cJ2_getChar_3b067 58 = .ok (.i2c, 1) := by decide +kernel
theorem dJ2_getChar_3b067_59 : decode cJ2_getChar_3b067 59 = .ok (.ireturn, 1) := by decide +kernel
theorem dJ2_length_9d52b_0 : decode cJ2_length_9d52b 0 = .ok (.aload_n 0, 1) := by decide +kernel
theorem dJ2_length_9d52b_1 : decode cJ2_length_9d52b 1 = .ok (.arraylength, 1) := by decide +kernel
theorem dJ2_length_9d52b_2 : decode cJ2_length_9d52b 2 = .ok (.iconst 1, 1) := by decide +kernel
theorem dJ2_length_9d52b_3 : decode cJ2_length_9d52b 3 = .ok (.ishr, 1) := by decide +kernel
theorem dJ2_length_9d52b_4 : decode cJ2_length_9d52b 4 = .ok (.ireturn, 1) := by decide +kernel
theorem dJ2_charAt_3b067_0 : decode cJ2_charAt_3b067 0 = .ok (.iload_n 1, 1) := by decide +kernel
theorem dJ2_charAt_3b067_1 : decode cJ2_charAt_3b067 1 = .ok (.aload_n 0, 1) := by decide +kernel
theorem dJ2_charAt_3b067_2 : decode cJ2_charAt_3b067 2 = .ok (.invokestatic 67, 3) := by decide +kernel
theorem dJ2_charAt_3b067_5 : decode cJ2_charAt_3b067 5 = .ok (.aload_n 0, 1) := by decide +kernel
theorem dJ2_charAt_3b067_6 : decode cJ2_charAt_3b067 6 = .ok (.iload_n 1, 1) := by decide +kernel
theorem dJ2_charAt_3b067_7 : decode cJ2_charAt_3b067 7 = .ok (.invokestatic 71, 3) := by decide +kernel
theorem dJ2_charAt_3b067_10 : decode cJ2_charAt_3b067 10 = .ok (.ireturn, 1) := by decide +kernel
theorem dJ2_checkIndex_2214a_0 : decode cJ2_checkIndex_2214a 0 = .ok (.iload_n 0, 1) := by decide +kernel
theorem dJ2_checkIndex_2214a_1 : decode cJ2_checkIndex_2214a 1 = .ok (.aload_n 1, 1) := by decide +kernel
theorem dJ2_checkIndex_2214a_2 : decode cJ2_checkIndex_2214a 2 = .ok (.invokestatic 48, 3) := by decide +kernel
theorem dJ2_checkIndex_2214a_5 : decode cJ2_checkIndex_2214a 5 = .ok (.invokestatic 414, 3) := by decide +kernel
theorem dJ2_checkIndex_2214a_8 : decode cJ2_checkIndex_2214a 8 = .ok (.return_, 1) := by decide +kernel
theorem dJ3_checkIndex_8e157_0 : decode cJ3_checkIndex_8e157 0 = .ok (.iload_n 0, 1) := by decide +kernel
theorem dJ3_checkIndex_8e157_1 : decode cJ3_checkIndex_8e157 1 = .ok (.ifCond .lt 8, 3) := by decide +kernel
theorem dJ3_checkIndex_8e157_4 : decode cJ3_checkIndex_8e157 4 = .ok (.iload_n 0, 1) := by decide +kernel
theorem dJ3_checkIndex_8e157_5 : decode cJ3_checkIndex_8e157 5 = .ok (.iload_n 1, 1) := by decide +kernel
theorem dJ3_checkIndex_8e157_6 : decode cJ3_checkIndex_8e157 6 = .ok (.if_icmp .lt 10, 3) := by decide +kernel
theorem dJ3_checkIndex_8e157_9 : decode cJ3_checkIndex_8e157 9 = .ok (.aload_n 2, 1) := by decide +kernel
theorem dJ3_checkIndex_8e157_10 : decode cJ3_checkIndex_8e157 10 = .ok (.iload_n 0, 1) := by decide +kernel
theorem dJ3_checkIndex_8e157_11 : decode cJ3_checkIndex_8e157 11 = .ok (.iload_n 1, 1) := by decide +kernel
theorem dJ3_checkIndex_8e157_12 : decode cJ3_checkIndex_8e157 12 = .ok (.invokestatic 95, 3) := by decide +kernel
theorem dJ3_checkIndex_8e157_15 : decode cJ3_checkIndex_8e157 15 = .ok (.athrow, 1) := by decide +kernel
theorem dJ3_checkIndex_8e157_16 : decode cJ3_checkIndex_8e157 16 = .ok (.iload_n 0, 1) := by decide +kernel
theorem dJ3_checkIndex_8e157_17 : decode cJ3_checkIndex_8e157 17 = .ok (.ireturn, 1) := by decide +kernel
theorem dJ6_bitCount_0f7a4_0 : decode cJ6_bitCount_0f7a4 0 = .ok (.iload_n 0, 1) := by decide +kernel
theorem dJ6_bitCount_0f7a4_1 : decode cJ6_bitCount_0f7a4 1 = .ok (.iload_n 0, 1) := by decide +kernel
theorem dJ6_bitCount_0f7a4_2 : decode cJ6_bitCount_0f7a4 2 = .ok (.iconst 1, 1) := by decide +kernel
theorem dJ6_bitCount_0f7a4_3 : decode cJ6_bitCount_0f7a4 3 = .ok (.iushr, 1) := by decide +kernel
theorem dJ6_bitCount_0f7a4_4 : decode cJ6_bitCount_0f7a4 4 = .ok (.ldc_w 265, 3) := by decide +kernel
theorem dJ6_bitCount_0f7a4_7 : decode cJ6_bitCount_0f7a4 7 = .ok (.iand, 1) := by decide +kernel
theorem dJ6_bitCount_0f7a4_8 : decode cJ6_bitCount_0f7a4 8 = .ok (.isub, 1) := by decide +kernel
theorem dJ6_bitCount_0f7a4_9 : decode cJ6_bitCount_0f7a4 9 = .ok (.istore_n 0, 1) := by decide +kernel
theorem dJ6_bitCount_0f7a4_10 : decode cJ6_bitCount_0f7a4 10 = .ok (.iload_n 0, 1) := by decide +kernel
theorem dJ6_bitCount_0f7a4_11 : decode cJ6_bitCount_0f7a4 11 = .ok (.ldc_w 266, 3) := by decide +kernel
theorem dJ6_bitCount_0f7a4_14 : decode cJ6_bitCount_0f7a4 14 = .ok (.iand, 1) := by decide +kernel
theorem dJ6_bitCount_0f7a4_15 : decode cJ6_bitCount_0f7a4 15 = .ok (.iload_n 0, 1) := by decide +kernel
theorem dJ6_bitCount_0f7a4_16 : decode cJ6_bitCount_0f7a4 16 = .ok (.iconst 2, 1) := by decide +kernel
theorem dJ6_bitCount_0f7a4_17 : decode cJ6_bitCount_0f7a4 17 = .ok (.iushr, 1) := by decide +kernel
theorem dJ6_bitCount_0f7a4_18 : decode cJ6_bitCount_0f7a4 18 = .ok (.ldc_w 266, 3) := by decide +kernel
theorem dJ6_bitCount_0f7a4_21 : decode cJ6_bitCount_0f7a4 21 = .ok (.iand, 1) := by decide +kernel
theorem dJ6_bitCount_0f7a4_22 : decode cJ6_bitCount_0f7a4 22 = .ok (.iadd, 1) := by decide +kernel
theorem dJ6_bitCount_0f7a4_23 : decode cJ6_bitCount_0f7a4 23 = .ok (.istore_n 0, 1) := by decide +kernel
theorem dJ6_bitCount_0f7a4_24 : decode cJ6_bitCount_0f7a4 24 = .ok (.iload_n 0, 1) := by decide +kernel
theorem dJ6_bitCount_0f7a4_25 : decode cJ6_bitCount_0f7a4 25 = .ok (.iload_n 0, 1) := by decide +kernel
theorem dJ6_bitCount_0f7a4_26 : decode cJ6_bitCount_0f7a4 26 = .ok (.iconst 4, 1) := by decide +kernel
theorem dJ6_bitCount_0f7a4_27 : decode cJ6_bitCount_0f7a4 27 = .ok (.iushr, 1) := by decide +kernel
theorem dJ6_bitCount_0f7a4_28 : decode cJ6_bitCount_0f7a4 28 = .ok (.iadd, 1) := by decide +kernel
theorem dJ6_bitCount_0f7a4_29 : decode cJ6_bitCount_0f7a4 29 = .ok (.ldc_w 267, 3) := by decide +kernel
theorem dJ6_bitCount_0f7a4_32 : decode cJ6_bitCount_0f7a4 32 = .ok (.iand, 1) := by decide +kernel
theorem dJ6_bitCount_0f7a4_33 : decode cJ6_bitCount_0f7a4 33 = .ok (.istore_n 0, 1) := by decide +kernel
theorem dJ6_bitCount_0f7a4_34 : decode cJ6_bitCount_0f7a4 34 = .ok (.iload_n 0, 1) := by decide +kernel
theorem dJ6_bitCount_0f7a4_35 : decode cJ6_bitCount_0f7a4 35 = .ok (.iload_n 0, 1) := by decide +kernel
theorem dJ6_bitCount_0f7a4_36 : decode cJ6_bitCount_0f7a4 36 = .ok (.bipush 8, 2) := by decide +kernel
theorem dJ6_bitCount_0f7a4_38 : decode cJ6_bitCount_0f7a4 38 = .ok (.iushr, 1) := by decide +kernel
theorem dJ6_bitCount_0f7a4_39 : decode cJ6_bitCount_0f7a4 39 = .ok (.iadd, 1) := by decide +kernel
theorem dJ6_bitCount_0f7a4_40 : decode cJ6_bitCount_0f7a4 40 = .ok (.istore_n 0, 1) := by decide +kernel
theorem dJ6_bitCount_0f7a4_41 : decode cJ6_bitCount_0f7a4 41 = .ok (.iload_n 0, 1) := by decide +kernel
theorem dJ6_bitCount_0f7a4_42 : decode cJ6_bitCount_0f7a4 42 = .ok (.iload_n 0, 1) := by decide +kernel
theorem dJ6_bitCount_0f7a4_43 : decode cJ6_bitCount_0f7a4 43 = .ok (.bipush 16, 2) := by decide +kernel
theorem dJ6_bitCount_0f7a4_45 : decode cJ6_bitCount_0f7a4 45 = .ok (.iushr, 1) := by decide +kernel
theorem dJ6_bitCount_0f7a4_46 : decode cJ6_bitCount_0f7a4 46 = .ok (.iadd, 1) := by decide +kernel
theorem dJ6_bitCount_0f7a4_47 : decode cJ6_bitCount_0f7a4 47 = .ok (.istore_n 0, 1) := by decide +kernel
theorem dJ6_bitCount_0f7a4_48 : decode cJ6_bitCount_0f7a4 48 = .ok (.iload_n 0, 1) := by decide +kernel
theorem dJ6_bitCount_0f7a4_49 : decode cJ6_bitCount_0f7a4 49 = .ok (.bipush 63, 2) := by decide +kernel
theorem dJ6_bitCount_0f7a4_51 : decode cJ6_bitCount_0f7a4 51 = .ok (.iand, 1) := by decide +kernel
theorem dJ6_bitCount_0f7a4_52 : decode cJ6_bitCount_0f7a4 52 = .ok (.ireturn, 1) := by decide +kernel
