theorem dX11_init_0 : decode cX11_init 0 = .ok (.aload_n 0, 1) := by decide +kernel
theorem dX11_init_1 : decode cX11_init 1 = .ok (.invokespecial 1, 3) := by decide +kernel
theorem dX11_init_4 : decode cX11_init 4 = .ok (.aload_n 0, 1) := by decide +kernel
theorem dX11_init_5 : decode cX11_init 5 = .ok (.new 7, 3) := by decide +kernel
theorem dX11_init_8 : decode cX11_init 8 = .ok (.dup, 1) := by decide +kernel
theorem dX11_init_9 : decode cX11_init 9 = .ok (.invokespecial 9, 3) := by decide +kernel
theorem dX11_init_12 : decode cX11_init 12 = .ok (.putfield 10, 3) := by decide +kernel
theorem dX11_init_15 : decode cX11_init 15 = .ok (.aload_n 0, 1) := by decide +kernel
theorem dX11_init_16 : decode cX11_init 16 = .ok (.new 16, 3) := by decide +kernel
theorem dX11_init_19 : decode cX11_init 19 = .ok (.dup, 1) := by decide +kernel
theorem dX11_init_20 : decode cX11_init 20 = .ok (.aload_n 0, 1) := by decide +kernel
theorem dX11_init_21 : decode cX11_init 21 = .ok (.getfield 10, 3) := by decide +kernel
theorem dX11_init_24 : decode cX11_init 24 = .ok (.invokespecial 18, 3) := by decide +kernel
theorem dX11_init_27 : decode cX11_init 27 = .ok (.putfield 21, 3) := by decide +kernel
theorem dX11_init_30 : decode cX11_init 30 = .ok (.aload_n 0, 1) := by decide +kernel
theorem dX11_init_31 : decode cX11_init 31 = .ok (.new 16, 3) := by decide +kernel
theorem dX11_init_34 : decode cX11_init 34 = .ok (.dup, 1) := by decide +kernel
theorem dX11_init_35 : decode cX11_init 35 = .ok (.aload_n 0, 1) := by decide +kernel
theorem dX11_init_36 : decode cX11_init 36 = .ok (.getfield 10, 3) := by decide +kernel
theorem dX11_init_39 : decode cX11_init 39 = .ok (.invokespecial 18, 3) := by decide +kernel
theorem dX11_init_42 : decode cX11_init 42 = .ok (.putfield 25, 3) := by decide +kernel
theorem dX11_init_45 : decode cX11_init 45 = .ok (.aload_n 0, 1) := by decide +kernel
theorem dX11_init_46 : decode cX11_init 46 = .ok (.new 16, 3) := by decide +kernel
theorem dX11_init_49 : decode cX11_init 49 = .ok (.dup, 1) := by decide +kernel
theorem dX11_init_50 : decode cX11_init 50 = .ok (.aload_n 0, 1) := by decide +kernel
theorem dX11_init_51 : decode cX11_init 51 = .ok (.getfield 10, 3) := by decide +kernel
theorem dX11_init_54 : decode cX11_init 54 = .ok (.invokespecial 18, 3) := by decide +kernel
theorem dX11_init_57 : decode cX11_init 57 = .ok (.putfield 28, 3) := by decide +kernel
theorem dX11_init_60 : decode cX11_init 60 = .ok (.aload_n 0, 1) := by decide +kernel
theorem dX11_init_61 : decode cX11_init 61 = .ok (.new 31, 3) := by decide +kernel
theorem dX11_init_64 : decode cX11_init 64 = .ok (.dup, 1) := by decide +kernel
theorem dX11_init_65 : decode cX11_init 65 = .ok (.invokespecial 33, 3) := by decide +kernel
theorem dX11_init_68 : decode cX11_init 68 = .ok (.putfield 34, 3) := by decide +kernel
theorem dX11_init_71 : decode cX11_init 71 = .ok (.aload_n 0, 1) := by decide +kernel
theorem dX11_init_72 : decode cX11_init 72 = .ok (.new 38, 3) := by decide +kernel
theorem dX11_init_75 : decode cX11_init 75 = .ok (.dup, 1) := by decide +kernel
theorem dX11_init_76 : decode cX11_init 76 = .ok (.invokespecial 40, 3) := by decide +kernel
theorem dX11_init_79 : decode cX11_init 79 = .ok (.putfield 41, 3) := by decide +kernel
theorem dX11_init_82 : decode cX11_init 82 = .ok (.aload_n 0, 1) := by decide +kernel
theorem dX11_init_83 : decode cX11_init 83 = .ok (.bipush 7, 2) := by decide +kernel
theorem dX11_init_85 : decode cX11_init 85 = .ok (.newarray .int, 2) := by decide +kernel
theorem dX11_init_87 : decode cX11_init 87 = .ok (.putfield 45, 3) := by decide +kernel
theorem dX11_init_90 : decode cX11_init 90 = .ok (.aload_n 0, 1) := by decide +kernel
theorem dX11_init_91 : decode cX11_init 91 = .ok (.iconst 0, 1) := by decide +kernel
theorem dX11_init_92 : decode cX11_init 92 = .ok (.putfield 49, 3) := by decide +kernel
theorem dX11_init_95 : decode cX11_init 95 = .ok (.return_, 1) := by decide +kernel
theorem dX11_glider_0 : decode cX11_glider 0 = .ok (.iload_n 1, 1) := by decide +kernel
theorem dX11_glider_1 : decode cX11_glider 1 = .ok (.iconst 1, 1) := by decide +kernel
theorem dX11_glider_2 : decode cX11_glider 2 = .ok (.iconst 2, 1) := by decide +kernel
theorem dX11_glider_3 : decode cX11_glider 3 = .ok (.invokestatic 53, 3) := by decide +kernel
theorem dX11_glider_6 : decode cX11_glider 6 = .ok (.ifCond .eq 24, 3) := by decide +kernel
theorem dX11_glider_9 : decode cX11_glider 9 = .ok (.iload_n 2, 1) := by decide +kernel
theorem dX11_glider_10 : decode cX11_glider 10 = .ok (.bipush 60, 2) := by decide +kernel
theorem dX11_glider_12 : decode cX11_glider 12 = .ok (.sipush 250, 3) := by decide +kernel
theorem dX11_glider_15 : decode cX11_glider 15 = .ok (.invokestatic 53, 3) := by decide +kernel
theorem dX11_glider_18 : decode cX11_glider 18 = .ok (.ifCond .eq 12, 3) := by decide +kernel
theorem dX11_glider_21 : decode cX11_glider 21 = .ok (.iload_n 3, 1) := by decide +kernel
theorem dX11_glider_22 : decode cX11_glider 22 = .ok (.iconst 0, 1) := by decide +kernel
theorem dX11_glider_23 : decode cX11_glider 23 = .ok (.iconst 3, 1) := by decide +kernel
theorem dX11_glider_24 : decode cX11_glider 24 = .ok (.invokestatic 53, 3) := by decide +kernel
theorem dX11_glider_27 : decode cX11_glider 27 = .ok (.ifCond .ne 10, 3) := by decide +kernel
theorem dX11_glider_30 : decode cX11_glider 30 = .ok (.aload_n 0, 1) := by decide +kernel
theorem dX11_glider_31 : decode cX11_glider 31 = .ok (.ldc 57, 2) := by decide +kernel
theorem dX11_glider_33 : decode cX11_glider 33 = .ok (.invokevirtual 58, 3) := by decide +kernel
theorem dX11_glider_36 : decode cX11_glider 36 = .ok (.ireturn, 1) := by decide +kernel
theorem dX11_glider_37 : decode cX11_glider 37 = .ok (.iload 4, 2) := by decide +kernel
theorem dX11_glider_39 : decode cX11_glider 39 = .ok (.aload_n 0, 1) := by decide +kernel
theorem dX11_glider_40 : decode cX11_glider 40 = .ok (.getfield 21, 3) := by decide +kernel
theorem dX11_glider_43 : decode cX11_glider 43 = .ok (.getfield 62, 3) := by decide +kernel
theorem dX11_glider_46 : decode cX11_glider 46 = .ok (.invokevirtual 66, 3) := by decide +kernel
theorem dX11_glider_49 : decode cX11_glider 49 = .ok (.iconst (-1), 1) := by decide +kernel
theorem dX11_glider_50 : decode cX11_glider 50 = .ok (.ixor, 1) := by decide +kernel
theorem dX11_glider_51 : decode cX11_glider 51 = .ok (.iand, 1) := by decide +kernel
theorem dX11_glider_52 : decode cX11_glider 52 = .ok (.ifCond .eq 10, 3) := by decide +kernel
theorem dX11_glider_55 : decode cX11_glider 55 = .ok (.aload_n 0, 1) := by decide +kernel
theorem dX11_glider_56 : decode cX11_glider 56 = .ok (.ldc 57, 2) := by decide +kernel
theorem dX11_glider_58 : decode cX11_glider 58 = .ok (.invokevirtual 58, 3) := by decide +kernel
theorem dX11_glider_61 : decode cX11_glider 61 = .ok (.ireturn, 1) := by decide +kernel
theorem dX11_glider_62 : decode cX11_glider 62 = .ok (.aload_n 0, 1) := by decide +kernel
theorem dX11_glider_63 : decode cX11_glider 63 = .ok (.getfield 21, 3) := by decide +kernel
theorem dX11_glider_66 : decode cX11_glider 66 = .ok (.getfield 72, 3) := by decide +kernel
theorem dX11_glider_69 : decode cX11_glider 69 = .ok (.getfield 76, 3) := by decide +kernel
theorem dX11_glider_72 : decode cX11_glider 72 = .ok (.bipush 10, 2) := by decide +kernel
theorem dX11_glider_74 : decode cX11_glider 74 = .ok (.if_icmp .lt 10, 3) := by decide +kernel
theorem dX11_glider_77 : decode cX11_glider 77 = .ok (.aload_n 0, 1) := by decide +kernel
theorem dX11_glider_78 : decode cX11_glider 78 = .ok (.ldc 82, 2) := by decide +kernel
theorem dX11_glider_80 : decode cX11_glider 80 = .ok (.invokevirtual 58, 3) := by decide +kernel
theorem dX11_glider_83 : decode cX11_glider 83 = .ok (.ireturn, 1) := by decide +kernel
theorem dX11_glider_84 : decode cX11_glider 84 = .ok (.aload_n 0, 1) := by decide +kernel
theorem dX11_glider_85 : decode cX11_glider 85 = .ok (.getfield 21, 3) := by decide +kernel
theorem dX11_glider_88 : decode cX11_glider 88 = .ok (.getfield 72, 3) := by decide +kernel
theorem dX11_glider_91 : decode cX11_glider 91 = .ok (.iload_n 1, 1) := by decide +kernel
theorem dX11_glider_92 : decode cX11_glider 92 = .ok (.iload_n 2, 1) := by decide +kernel
theorem dX11_glider_93 : decode cX11_glider 93 = .ok (.iload_n 3, 1) := by decide +kernel
theorem dX11_glider_94 : decode cX11_glider 94 = .ok (.iload 4, 2) := by decide +kernel
theorem dX11_glider_96 : decode cX11_glider 96 = .ok (.invokevirtual 83, 3) := by decide +kernel
theorem dX11_glider_99 : decode cX11_glider 99 = .ok (.ireturn, 1) := by decide +kernel
theorem dX11_person_0 : decode cX11_person 0 = .ok (.iload_n 1, 1) := by decide +kernel
theorem dX11_person_1 : decode cX11_person 1 = .ok (.bipush 40, 2) := by decide +kernel
theorem dX11_person_3 : decode cX11_person 3 = .ok (.sipush 130, 3) := by decide +kernel
theorem dX11_person_6 : decode cX11_person 6 = .ok (.invokestatic 53, 3) := by decide +kernel
theorem dX11_person_9 : decode cX11_person 9 = .ok (.ifCond .eq 10, 3) := by decide +kernel
theorem dX11_person_12 : decode cX11_person 12 = .ok (.iload_n 2, 1) := by decide +kernel
theorem dX11_person_13 : decode cX11_person 13 = .ok (.bipush (-127), 2) := by decide +kernel
theorem dX11_person_15 : decode cX11_person 15 = .ok (.iand, 1) := by decide +kernel
theorem dX11_person_16 : decode cX11_person 16 = .ok (.ifCond .eq 10, 3) := by decide +kernel
theorem dX11_person_19 : decode cX11_person 19 = .ok (.aload_n 0, 1) := by decide +kernel
theorem dX11_person_20 : decode cX11_person 20 = .ok (.ldc 57, 2) := by decide +kernel
theorem dX11_person_22 : decode cX11_person 22 = .ok (.invokevirtual 58, 3) := by decide +kernel
theorem dX11_person_25 : decode cX11_person 25 = .ok (.ireturn, 1) := by decide +kernel
theorem dX11_person_26 : decode cX11_person 26 = .ok (.aload_n 0, 1) := by decide +kernel
theorem dX11_person_27 : decode cX11_person 27 = .ok (.getfield 21, 3) := by decide +kernel
theorem dX11_person_30 : decode cX11_person 30 = .ok (.getfield 62, 3) := by decide +kernel
theorem dX11_person_33 : decode cX11_person 33 = .ok (.getfield 87, 3) := by decide +kernel
theorem dX11_person_36 : decode cX11_person 36 = .ok (.bipush 14, 2) := by decide +kernel
theorem dX11_person_38 : decode cX11_person 38 = .ok (.if_icmp .lt 10, 3) := by decide +kernel
theorem dX11_person_41 : decode cX11_person 41 = .ok (.aload_n 0, 1) := by decide +kernel
theorem dX11_person_42 : decode cX11_person 42 = .ok (.ldc 82, 2) := by decide +kernel
theorem dX11_person_44 : decode cX11_person 44 = .ok (.invokevirtual 58, 3) := by decide +kernel
theorem dX11_person_47 : decode cX11_person 47 = .ok (.ireturn, 1) := by decide +kernel
theorem dX11_person_48 : decode cX11_person 48 = .ok (.aload_n 0, 1) := by decide +kernel
theorem dX11_person_49 : decode cX11_person 49 = .ok (.getfield 21, 3) := by decide +kernel
theorem dX11_person_52 : decode cX11_person 52 = .ok (.getfield 62, 3) := by decide +kernel
theorem dX11_person_55 : decode cX11_person 55 = .ok (.iload_n 1, 1) := by decide +kernel
theorem dX11_person_56 : decode cX11_person 56 = .ok (.iload_n 2, 1) := by decide +kernel
theorem dX11_person_57 : decode cX11_person 57 = .ok (.invokevirtual 88, 3) := by decide +kernel
theorem dX11_person_60 : decode cX11_person 60 = .ok (.ireturn, 1) := by decide +kernel
theorem dX11_winch_0 : decode cX11_winch 0 = .ok (.aload_n 0, 1) := by decide +kernel
theorem dX11_winch_1 : decode cX11_winch 1 = .ok (.getfield 21, 3) := by decide +kernel
theorem dX11_winch_4 : decode cX11_winch 4 = .ok (.getfield 91, 3) := by decide +kernel
theorem dX11_winch_7 : decode cX11_winch 7 = .ok (.getfield 95, 3) := by decide +kernel
theorem dX11_winch_10 : decode cX11_winch 10 = .ok (.iconst 3, 1) := by decide +kernel
theorem dX11_winch_11 : decode cX11_winch 11 = .ok (.if_icmp .lt 10, 3) := by decide +kernel
theorem dX11_winch_14 : decode cX11_winch 14 = .ok (.aload_n 0, 1) := by decide +kernel
theorem dX11_winch_15 : decode cX11_winch 15 = .ok (.ldc 82, 2) := by decide +kernel
theorem dX11_winch_17 : decode cX11_winch 17 = .ok (.invokevirtual 58, 3) := by decide +kernel
theorem dX11_winch_20 : decode cX11_winch 20 = .ok (.ireturn, 1) := by decide +kernel
theorem dX11_winch_21 : decode cX11_winch 21 = .ok (.aload_n 0, 1) := by decide +kernel
theorem dX11_winch_22 : decode cX11_winch 22 = .ok (.getfield 21, 3) := by decide +kernel
theorem dX11_winch_25 : decode cX11_winch 25 = .ok (.getfield 91, 3) := by decide +kernel
theorem dX11_winch_28 : decode cX11_winch 28 = .ok (.invokevirtual 98, 3) := by decide +kernel
theorem dX11_winch_31 : decode cX11_winch 31 = .ok (.ireturn, 1) := by decide +kernel
theorem dX11_plane_0 : decode cX11_plane 0 = .ok (.aload_n 0, 1) := by decide +kernel
theorem dX11_plane_1 : decode cX11_plane 1 = .ok (.getfield 21, 3) := by decide +kernel
theorem dX11_plane_4 : decode cX11_plane 4 = .ok (.getfield 100, 3) := by decide +kernel
theorem dX11_plane_7 : decode cX11_plane 7 = .ok (.getfield 104, 3) := by decide +kernel
theorem dX11_plane_10 : decode cX11_plane 10 = .ok (.iconst 3, 1) := by decide +kernel
theorem dX11_plane_11 : decode cX11_plane 11 = .ok (.if_icmp .lt 10, 3) := by decide +kernel
theorem dX11_plane_14 : decode cX11_plane 14 = .ok (.aload_n 0, 1) := by decide +kernel
theorem dX11_plane_15 : decode cX11_plane 15 = .ok (.ldc 82, 2) := by decide +kernel
theorem dX11_plane_17 : decode cX11_plane 17 = .ok (.invokevirtual 58, 3) := by decide +kernel
theorem dX11_plane_20 : decode cX11_plane 20 = .ok (.ireturn, 1) := by decide +kernel
theorem dX11_plane_21 : decode cX11_plane 21 = .ok (.aload_n 0, 1) := by decide +kernel
theorem dX11_plane_22 : decode cX11_plane 22 = .ok (.getfield 21, 3) := by decide +kernel
theorem dX11_plane_25 : decode cX11_plane 25 = .ok (.getfield 100, 3) := by decide +kernel
theorem dX11_plane_28 : decode cX11_plane 28 = .ok (.invokevirtual 107, 3) := by decide +kernel
theorem dX11_plane_31 : decode cX11_plane 31 = .ok (.ireturn, 1) := by decide +kernel
theorem dX11_gliderIs_0 : decode cX11_gliderIs 0 = .ok (.aload_n 0, 1) := by decide +kernel
theorem dX11_gliderIs_1 : decode cX11_gliderIs 1 = .ok (.getfield 21, 3) := by decide +kernel
theorem dX11_gliderIs_4 : decode cX11_gliderIs 4 = .ok (.getfield 72, 3) := by decide +kernel
theorem dX11_gliderIs_7 : decode cX11_gliderIs 7 = .ok (.iload_n 1, 1) := by decide +kernel
theorem dX11_gliderIs_8 : decode cX11_gliderIs 8 = .ok (.invokevirtual 108, 3) := by decide +kernel
theorem dX11_gliderIs_11 : decode cX11_gliderIs 11 = .ok (.ifCond .eq 12, 3) := by decide +kernel
theorem dX11_gliderIs_14 : decode cX11_gliderIs 14 = .ok (.iload_n 2, 1) := by decide +kernel
theorem dX11_gliderIs_15 : decode cX11_gliderIs 15 = .ok (.iconst 0, 1) := by decide +kernel
theorem dX11_gliderIs_16 : decode cX11_gliderIs 16 = .ok (.iconst 4, 1) := by decide +kernel
theorem dX11_gliderIs_17 : decode cX11_gliderIs 17 = .ok (.invokestatic 53, 3) := by decide +kernel
theorem dX11_gliderIs_20 : decode cX11_gliderIs 20 = .ok (.ifCond .ne 10, 3) := by decide +kernel
theorem dX11_gliderIs_23 : decode cX11_gliderIs 23 = .ok (.aload_n 0, 1) := by decide +kernel
theorem dX11_gliderIs_24 : decode cX11_gliderIs 24 = .ok (.ldc 57, 2) := by decide +kernel
theorem dX11_gliderIs_26 : decode cX11_gliderIs 26 = .ok (.invokevirtual 58, 3) := by decide +kernel
theorem dX11_gliderIs_29 : decode cX11_gliderIs 29 = .ok (.ireturn, 1) := by decide +kernel
theorem dX11_gliderIs_30 : decode cX11_gliderIs 30 = .ok (.aload_n 0, 1) := by decide +kernel
theorem dX11_gliderIs_31 : decode cX11_gliderIs 31 = .ok (.getfield 21, 3) := by decide +kernel
theorem dX11_gliderIs_34 : decode cX11_gliderIs 34 = .ok (.getfield 72, 3) := by decide +kernel
theorem dX11_gliderIs_37 : decode cX11_gliderIs 37 = .ok (.iload_n 1, 1) := by decide +kernel
theorem dX11_gliderIs_38 : decode cX11_gliderIs 38 = .ok (.iload_n 2, 1) := by decide +kernel
theorem dX11_gliderIs_39 : decode cX11_gliderIs 39 = .ok (.invokevirtual 112, 3) := by decide +kernel
theorem dX11_gliderIs_42 : decode cX11_gliderIs 42 = .ok (.ireturn, 1) := by decide +kernel
theorem dX11_personIs_0 : decode cX11_personIs 0 = .ok (.aload_n 0, 1) := by decide +kernel
theorem dX11_personIs_1 : decode cX11_personIs 1 = .ok (.getfield 21, 3) := by decide +kernel
theorem dX11_personIs_4 : decode cX11_personIs 4 = .ok (.getfield 62, 3) := by decide +kernel
theorem dX11_personIs_7 : decode cX11_personIs 7 = .ok (.iload_n 1, 1) := by decide +kernel
theorem dX11_personIs_8 : decode cX11_personIs 8 = .ok (.invokevirtual 115, 3) := by decide +kernel
theorem dX11_personIs_11 : decode cX11_personIs 11 = .ok (.ifCond .eq 12, 3) := by decide +kernel
theorem dX11_personIs_14 : decode cX11_personIs 14 = .ok (.iload_n 2, 1) := by decide +kernel
theorem dX11_personIs_15 : decode cX11_personIs 15 = .ok (.iconst 0, 1) := by decide +kernel
theorem dX11_personIs_16 : decode cX11_personIs 16 = .ok (.iconst 4, 1) := by decide +kernel
theorem dX11_personIs_17 : decode cX11_personIs 17 = .ok (.invokestatic 53, 3) := by decide +kernel
theorem dX11_personIs_20 : decode cX11_personIs 20 = .ok (.ifCond .ne 10, 3) := by decide +kernel
theorem dX11_personIs_23 : decode cX11_personIs 23 = .ok (.aload_n 0, 1) := by decide +kernel
theorem dX11_personIs_24 : decode cX11_personIs 24 = .ok (.ldc 57, 2) := by decide +kernel
theorem dX11_personIs_26 : decode cX11_personIs 26 = .ok (.invokevirtual 58, 3) := by decide +kernel
theorem dX11_personIs_29 : decode cX11_personIs 29 = .ok (.ireturn, 1) := by decide +kernel
theorem dX11_personIs_30 : decode cX11_personIs 30 = .ok (.aload_n 0, 1) := by decide +kernel
theorem dX11_personIs_31 : decode cX11_personIs 31 = .ok (.getfield 21, 3) := by decide +kernel
theorem dX11_personIs_34 : decode cX11_personIs 34 = .ok (.getfield 62, 3) := by decide +kernel
theorem dX11_personIs_37 : decode cX11_personIs 37 = .ok (.iload_n 1, 1) := by decide +kernel
theorem dX11_personIs_38 : decode cX11_personIs 38 = .ok (.iload_n 2, 1) := by decide +kernel
theorem dX11_personIs_39 : decode cX11_personIs 39 = .ok (.invokevirtual 116, 3) := by decide +kernel
theorem dX11_personIs_42 : decode cX11_personIs 42 = .ok (.ireturn, 1) := by decide +kernel
theorem dX11_paper_0 : decode cX11_paper 0 = .ok (.aload_n 0, 1) := by decide +kernel
theorem dX11_paper_1 : decode cX11_paper 1 = .ok (.getfield 21, 3) := by decide +kernel
theorem dX11_paper_4 : decode cX11_paper 4 = .ok (.getfield 62, 3) := by decide +kernel
theorem dX11_paper_7 : decode cX11_paper 7 = .ok (.iload_n 1, 1) := by decide +kernel
theorem dX11_paper_8 : decode cX11_paper 8 = .ok (.invokevirtual 115, 3) := by decide +kernel
theorem dX11_paper_11 : decode cX11_paper 11 = .ok (.ifCond .eq 13, 3) := by decide +kernel
theorem dX11_paper_14 : decode cX11_paper 14 = .ok (.iload_n 2, 1) := by decide +kernel
theorem dX11_paper_15 : decode cX11_paper 15 = .ok (.iconst 1, 1) := by decide +kernel
theorem dX11_paper_16 : decode cX11_paper 16 = .ok (.bipush 6, 2) := by decide +kernel
theorem dX11_paper_18 : decode cX11_paper 18 = .ok (.invokestatic 53, 3) := by decide +kernel
theorem dX11_paper_21 : decode cX11_paper 21 = .ok (.ifCond .ne 10, 3) := by decide +kernel
theorem dX11_paper_24 : decode cX11_paper 24 = .ok (.aload_n 0, 1) := by decide +kernel
theorem dX11_paper_25 : decode cX11_paper 25 = .ok (.ldc 57, 2) := by decide +kernel
theorem dX11_paper_27 : decode cX11_paper 27 = .ok (.invokevirtual 58, 3) := by decide +kernel
theorem dX11_paper_30 : decode cX11_paper 30 = .ok (.ireturn, 1) := by decide +kernel
theorem dX11_paper_31 : decode cX11_paper 31 = .ok (.aload_n 0, 1) := by decide +kernel
theorem dX11_paper_32 : decode cX11_paper 32 = .ok (.getfield 21, 3) := by decide +kernel
theorem dX11_paper_35 : decode cX11_paper 35 = .ok (.getfield 62, 3) := by decide +kernel
theorem dX11_paper_38 : decode cX11_paper 38 = .ok (.getfield 117, 3) := by decide +kernel
theorem dX11_paper_41 : decode cX11_paper 41 = .ok (.iload_n 1, 1) := by decide +kernel
theorem dX11_paper_42 : decode cX11_paper 42 = .ok (.iaload, 1) := by decide +kernel
theorem dX11_paper_43 : decode cX11_paper 43 = .ok (.istore 4, 2) := by decide +kernel
theorem dX11_paper_45 : decode cX11_paper 45 = .ok (.iload 4, 2) := by decide +kernel
theorem dX11_paper_47 : decode cX11_paper 47 = .ok (.iload_n 2, 1) := by decide +kernel
theorem dX11_paper_48 : decode cX11_paper 48 = .ok (.iload_n 3, 1) := by decide +kernel
theorem dX11_paper_49 : decode cX11_paper 49 = .ok (.invokestatic 120, 3) := by decide +kernel
theorem dX11_paper_52 : decode cX11_paper 52 = .ok (.istore 5, 2) := by decide +kernel
theorem dX11_paper_54 : decode cX11_paper 54 = .ok (.aload_n 0, 1) := by decide +kernel
theorem dX11_paper_55 : decode cX11_paper 55 = .ok (.getfield 21, 3) := by decide +kernel
theorem dX11_paper_58 : decode cX11_paper 58 = .ok (.getfield 62, 3) := by decide +kernel
theorem dX11_paper_61 : decode cX11_paper 61 = .ok (.getfield 117, 3) := by decide +kernel
theorem dX11_paper_64 : decode cX11_paper 64 = .ok (.iload_n 1, 1) := by decide +kernel
theorem dX11_paper_65 : decode cX11_paper 65 = .ok (.iload 5, 2) := by decide +kernel
theorem dX11_paper_67 : decode cX11_paper 67 = .ok (.iastore, 1) := by decide +kernel
theorem dX11_paper_68 : decode cX11_paper 68 = .ok (.iload 4, 2) := by decide +kernel
theorem dX11_paper_70 : decode cX11_paper 70 = .ok (.iload 5, 2) := by decide +kernel
theorem dX11_paper_72 : decode cX11_paper 72 = .ok (.if_icmp .ne 7, 3) := by decide +kernel
theorem dX11_paper_75 : decode cX11_paper 75 = .ok (.iconst 0, 1) := by decide +kernel
theorem dX11_paper_76 : decode cX11_paper 76 = .ok (.goto 4, 3) := by decide +kernel
theorem dX11_paper_79 : decode cX11_paper 79 = .ok (.iconst 1, 1) := by decide +kernel
theorem dX11_paper_80 : decode cX11_paper 80 = .ok (.ireturn, 1) := by decide +kernel
theorem dX11_rope_0 : decode cX11_rope 0 = .ok (.aload_n 0, 1) := by decide +kernel
theorem dX11_rope_1 : decode cX11_rope 1 = .ok (.getfield 21, 3) := by decide +kernel
theorem dX11_rope_4 : decode cX11_rope 4 = .ok (.getfield 91, 3) := by decide +kernel
theorem dX11_rope_7 : decode cX11_rope 7 = .ok (.iload_n 1, 1) := by decide +kernel
theorem dX11_rope_8 : decode cX11_rope 8 = .ok (.iload_n 2, 1) := by decide +kernel
theorem dX11_rope_9 : decode cX11_rope 9 = .ok (.invokevirtual 124, 3) := by decide +kernel
theorem dX11_rope_12 : decode cX11_rope 12 = .ok (.ifCond .eq 12, 3) := by decide +kernel
theorem dX11_rope_15 : decode cX11_rope 15 = .ok (.iload_n 3, 1) := by decide +kernel
theorem dX11_rope_16 : decode cX11_rope 16 = .ok (.iconst 0, 1) := by decide +kernel
theorem dX11_rope_17 : decode cX11_rope 17 = .ok (.iconst 1, 1) := by decide +kernel
theorem dX11_rope_18 : decode cX11_rope 18 = .ok (.invokestatic 53, 3) := by decide +kernel
theorem dX11_rope_21 : decode cX11_rope 21 = .ok (.ifCond .ne 10, 3) := by decide +kernel
theorem dX11_rope_24 : decode cX11_rope 24 = .ok (.aload_n 0, 1) := by decide +kernel
theorem dX11_rope_25 : decode cX11_rope 25 = .ok (.ldc 57, 2) := by decide +kernel
theorem dX11_rope_27 : decode cX11_rope 27 = .ok (.invokevirtual 58, 3) := by decide +kernel
theorem dX11_rope_30 : decode cX11_rope 30 = .ok (.ireturn, 1) := by decide +kernel
theorem dX11_rope_31 : decode cX11_rope 31 = .ok (.iload_n 1, 1) := by decide +kernel
theorem dX11_rope_32 : decode cX11_rope 32 = .ok (.iload_n 2, 1) := by decide +kernel
theorem dX11_rope_33 : decode cX11_rope 33 = .ok (.invokestatic 128, 3) := by decide +kernel
theorem dX11_rope_36 : decode cX11_rope 36 = .ok (.istore 4, 2) := by decide +kernel
theorem dX11_rope_38 : decode cX11_rope 38 = .ok (.iload_n 3, 1) := by decide +kernel
theorem dX11_rope_39 : decode cX11_rope 39 = .ok (.ifCond .ne 19, 3) := by decide +kernel
theorem dX11_rope_42 : decode cX11_rope 42 = .ok (.aload_n 0, 1) := by decide +kernel
theorem dX11_rope_43 : decode cX11_rope 43 = .ok (.getfield 21, 3) := by decide +kernel
theorem dX11_rope_46 : decode cX11_rope 46 = .ok (.getfield 91, 3) := by decide +kernel
theorem dX11_rope_49 : decode cX11_rope 49 = .ok (.getfield 131, 3) := by decide +kernel
theorem dX11_rope_52 : decode cX11_rope 52 = .ok (.iload 4, 2) := by decide +kernel
theorem dX11_rope_54 : decode cX11_rope 54 = .ok (.iaload, 1) := by decide +kernel
theorem dX11_rope_55 : decode cX11_rope 55 = .ok (.goto 16, 3) := by decide +kernel
theorem dX11_rope_58 : decode cX11_rope 58 = .ok (.aload_n 0, 1) := by decide +kernel
theorem dX11_rope_59 : decode cX11_rope 59 = .ok (.getfield 21, 3) := by decide +kernel
theorem dX11_rope_62 : decode cX11_rope 62 = .ok (.getfield 91, 3) := by decide +kernel
theorem dX11_rope_65 : decode cX11_rope 65 = .ok (.getfield 134, 3) := by decide +kernel
theorem dX11_rope_68 : decode cX11_rope 68 = .ok (.iload 4, 2) := by decide +kernel
theorem dX11_rope_70 : decode cX11_rope 70 = .ok (.iaload, 1) := by decide +kernel
theorem dX11_rope_71 : decode cX11_rope 71 = .ok (.ireturn, 1) := by decide +kernel
theorem dX11_broken_0 : decode cX11_broken 0 = .ok (.aload_n 0, 1) := by decide +kernel
theorem dX11_broken_1 : decode cX11_broken 1 = .ok (.getfield 21, 3) := by decide +kernel
theorem dX11_broken_4 : decode cX11_broken 4 = .ok (.getfield 91, 3) := by decide +kernel
theorem dX11_broken_7 : decode cX11_broken 7 = .ok (.iload_n 1, 1) := by decide +kernel
theorem dX11_broken_8 : decode cX11_broken 8 = .ok (.iload_n 2, 1) := by decide +kernel
theorem dX11_broken_9 : decode cX11_broken 9 = .ok (.invokevirtual 124, 3) := by decide +kernel
theorem dX11_broken_12 : decode cX11_broken 12 = .ok (.ifCond .ne 10, 3) := by decide +kernel
theorem dX11_broken_15 : decode cX11_broken 15 = .ok (.aload_n 0, 1) := by decide +kernel
theorem dX11_broken_16 : decode cX11_broken 16 = .ok (.ldc 57, 2) := by decide +kernel
theorem dX11_broken_18 : decode cX11_broken 18 = .ok (.invokevirtual 58, 3) := by decide +kernel
theorem dX11_broken_21 : decode cX11_broken 21 = .ok (.ireturn, 1) := by decide +kernel
theorem dX11_broken_22 : decode cX11_broken 22 = .ok (.iload_n 1, 1) := by decide +kernel
theorem dX11_broken_23 : decode cX11_broken 23 = .ok (.iload_n 2, 1) := by decide +kernel
theorem dX11_broken_24 : decode cX11_broken 24 = .ok (.invokestatic 128, 3) := by decide +kernel
theorem dX11_broken_27 : decode cX11_broken 27 = .ok (.istore_n 3, 1) := by decide +kernel
theorem dX11_broken_28 : decode cX11_broken 28 = .ok (.aload_n 0, 1) := by decide +kernel
theorem dX11_broken_29 : decode cX11_broken 29 = .ok (.getfield 21, 3) := by decide +kernel
theorem dX11_broken_32 : decode cX11_broken 32 = .ok (.getfield 91, 3) := by decide +kernel
theorem dX11_broken_35 : decode cX11_broken 35 = .ok (.getfield 131, 3) := by decide +kernel
theorem dX11_broken_38 : decode cX11_broken 38 = .ok (.iload_n 3, 1) := by decide +kernel
theorem dX11_broken_39 : decode cX11_broken 39 = .ok (.iaload, 1) := by decide +kernel
theorem dX11_broken_40 : decode cX11_broken 40 = .ok (.iconst 3, 1) := by decide +kernel
theorem dX11_broken_41 : decode cX11_broken 41 = .ok (.if_icmp .ne 10, 3) := by decide +kernel
theorem dX11_broken_44 : decode cX11_broken 44 = .ok (.aload_n 0, 1) := by decide +kernel
theorem dX11_broken_45 : decode cX11_broken 45 = .ok (.ldc 137, 2) := by decide +kernel
theorem dX11_broken_47 : decode cX11_broken 47 = .ok (.invokevirtual 58, 3) := by decide +kernel
theorem dX11_broken_50 : decode cX11_broken 50 = .ok (.ireturn, 1) := by decide +kernel
theorem dX11_broken_51 : decode cX11_broken 51 = .ok (.aload_n 0, 1) := by decide +kernel
theorem dX11_broken_52 : decode cX11_broken 52 = .ok (.getfield 21, 3) := by decide +kernel
theorem dX11_broken_55 : decode cX11_broken 55 = .ok (.getfield 138, 3) := by decide +kernel
theorem dX11_broken_58 : decode cX11_broken 58 = .ok (.aload_n 0, 1) := by decide +kernel
theorem dX11_broken_59 : decode cX11_broken 59 = .ok (.getfield 21, 3) := by decide +kernel
theorem dX11_broken_62 : decode cX11_broken 62 = .ok (.getfield 141, 3) := by decide +kernel
theorem dX11_broken_65 : decode cX11_broken 65 = .ok (.iconst 2, 1) := by decide +kernel
theorem dX11_broken_66 : decode cX11_broken 66 = .ok (.iaload, 1) := by decide +kernel
theorem dX11_broken_67 : decode cX11_broken 67 = .ok (.iadd, 1) := by decide +kernel
theorem dX11_broken_68 : decode cX11_broken 68 = .ok (.istore 4, 2) := by decide +kernel
theorem dX11_broken_70 : decode cX11_broken 70 = .ok (.aload_n 0, 1) := by decide +kernel
theorem dX11_broken_71 : decode cX11_broken 71 = .ok (.getfield 21, 3) := by decide +kernel
theorem dX11_broken_74 : decode cX11_broken 74 = .ok (.getfield 91, 3) := by decide +kernel
theorem dX11_broken_77 : decode cX11_broken 77 = .ok (.iload_n 3, 1) := by decide +kernel
theorem dX11_broken_78 : decode cX11_broken 78 = .ok (.iconst 3, 1) := by decide +kernel
theorem dX11_broken_79 : decode cX11_broken 79 = .ok (.iload 4, 2) := by decide +kernel
theorem dX11_broken_81 : decode cX11_broken 81 = .ok (.invokevirtual 144, 3) := by decide +kernel
theorem dX11_broken_84 : decode cX11_broken 84 = .ok (.iload 4, 2) := by decide +kernel
theorem dX11_broken_86 : decode cX11_broken 86 = .ok (.ireturn, 1) := by decide +kernel
theorem dX11_tow_0 : decode cX11_tow 0 = .ok (.aload_n 0, 1) := by decide +kernel
theorem dX11_tow_1 : decode cX11_tow 1 = .ok (.getfield 21, 3) := by decide +kernel
theorem dX11_tow_4 : decode cX11_tow 4 = .ok (.getfield 100, 3) := by decide +kernel
theorem dX11_tow_7 : decode cX11_tow 7 = .ok (.iload_n 1, 1) := by decide +kernel
theorem dX11_tow_8 : decode cX11_tow 8 = .ok (.invokevirtual 148, 3) := by decide +kernel
theorem dX11_tow_11 : decode cX11_tow 11 = .ok (.ifCond .ne 10, 3) := by decide +kernel
theorem dX11_tow_14 : decode cX11_tow 14 = .ok (.aload_n 0, 1) := by decide +kernel
theorem dX11_tow_15 : decode cX11_tow 15 = .ok (.ldc 57, 2) := by decide +kernel
theorem dX11_tow_17 : decode cX11_tow 17 = .ok (.invokevirtual 58, 3) := by decide +kernel
theorem dX11_tow_20 : decode cX11_tow 20 = .ok (.ireturn, 1) := by decide +kernel
theorem dX11_tow_21 : decode cX11_tow 21 = .ok (.aload_n 0, 1) := by decide +kernel
theorem dX11_tow_22 : decode cX11_tow 22 = .ok (.getfield 21, 3) := by decide +kernel
theorem dX11_tow_25 : decode cX11_tow 25 = .ok (.getfield 100, 3) := by decide +kernel
theorem dX11_tow_28 : decode cX11_tow 28 = .ok (.getfield 149, 3) := by decide +kernel
theorem dX11_tow_31 : decode cX11_tow 31 = .ok (.iload_n 1, 1) := by decide +kernel
theorem dX11_tow_32 : decode cX11_tow 32 = .ok (.iaload, 1) := by decide +kernel
theorem dX11_tow_33 : decode cX11_tow 33 = .ok (.ireturn, 1) := by decide +kernel
theorem dX11_cross_0 : decode cX11_cross 0 = .ok (.iload_n 1, 1) := by decide +kernel
theorem dX11_cross_1 : decode cX11_cross 1 = .ok (.invokestatic 150, 3) := by decide +kernel
theorem dX11_cross_4 : decode cX11_cross 4 = .ok (.ifCond .eq 15, 3) := by decide +kernel
theorem dX11_cross_7 : decode cX11_cross 7 = .ok (.iload_n 2, 1) := by decide +kernel
theorem dX11_cross_8 : decode cX11_cross 8 = .ok (.invokestatic 150, 3) := by decide +kernel
theorem dX11_cross_11 : decode cX11_cross 11 = .ok (.ifCond .eq 8, 3) := by decide +kernel
theorem dX11_cross_14 : decode cX11_cross 14 = .ok (.iload_n 1, 1) := by decide +kernel
theorem dX11_cross_15 : decode cX11_cross 15 = .ok (.iload_n 2, 1) := by decide +kernel
theorem dX11_cross_16 : decode cX11_cross 16 = .ok (.if_icmp .ne 10, 3) := by decide +kernel
theorem dX11_cross_19 : decode cX11_cross 19 = .ok (.aload_n 0, 1) := by decide +kernel
theorem dX11_cross_20 : decode cX11_cross 20 = .ok (.ldc 57, 2) := by decide +kernel
theorem dX11_cross_22 : decode cX11_cross 22 = .ok (.invokevirtual 58, 3) := by decide +kernel
theorem dX11_cross_25 : decode cX11_cross 25 = .ok (.ireturn, 1) := by decide +kernel
theorem dX11_cross_26 : decode cX11_cross 26 = .ok (.aload_n 0, 1) := by decide +kernel
theorem dX11_cross_27 : decode cX11_cross 27 = .ok (.getfield 21, 3) := by decide +kernel
theorem dX11_cross_30 : decode cX11_cross 30 = .ok (.getfield 153, 3) := by decide +kernel
theorem dX11_cross_33 : decode cX11_cross 33 = .ok (.getfield 157, 3) := by decide +kernel
theorem dX11_cross_36 : decode cX11_cross 36 = .ok (.iload_n 1, 1) := by decide +kernel
theorem dX11_cross_37 : decode cX11_cross 37 = .ok (.iaload, 1) := by decide +kernel
theorem dX11_cross_38 : decode cX11_cross 38 = .ok (.istore 4, 2) := by decide +kernel
theorem dX11_cross_40 : decode cX11_cross 40 = .ok (.iload 4, 2) := by decide +kernel
theorem dX11_cross_42 : decode cX11_cross 42 = .ok (.iload_n 2, 1) := by decide +kernel
theorem dX11_cross_43 : decode cX11_cross 43 = .ok (.iload_n 3, 1) := by decide +kernel
theorem dX11_cross_44 : decode cX11_cross 44 = .ok (.invokestatic 120, 3) := by decide +kernel
theorem dX11_cross_47 : decode cX11_cross 47 = .ok (.istore 5, 2) := by decide +kernel
theorem dX11_cross_49 : decode cX11_cross 49 = .ok (.aload_n 0, 1) := by decide +kernel
theorem dX11_cross_50 : decode cX11_cross 50 = .ok (.getfield 21, 3) := by decide +kernel
theorem dX11_cross_53 : decode cX11_cross 53 = .ok (.getfield 153, 3) := by decide +kernel
theorem dX11_cross_56 : decode cX11_cross 56 = .ok (.getfield 157, 3) := by decide +kernel
theorem dX11_cross_59 : decode cX11_cross 59 = .ok (.iload_n 1, 1) := by decide +kernel
theorem dX11_cross_60 : decode cX11_cross 60 = .ok (.iload 5, 2) := by decide +kernel
theorem dX11_cross_62 : decode cX11_cross 62 = .ok (.iastore, 1) := by decide +kernel
theorem dX11_cross_63 : decode cX11_cross 63 = .ok (.aload_n 0, 1) := by decide +kernel
theorem dX11_cross_64 : decode cX11_cross 64 = .ok (.getfield 21, 3) := by decide +kernel
theorem dX11_cross_67 : decode cX11_cross 67 = .ok (.getfield 153, 3) := by decide +kernel
theorem dX11_cross_70 : decode cX11_cross 70 = .ok (.getfield 157, 3) := by decide +kernel
theorem dX11_cross_73 : decode cX11_cross 73 = .ok (.iload_n 2, 1) := by decide +kernel
theorem dX11_cross_74 : decode cX11_cross 74 = .ok (.aload_n 0, 1) := by decide +kernel
theorem dX11_cross_75 : decode cX11_cross 75 = .ok (.getfield 21, 3) := by decide +kernel
theorem dX11_cross_78 : decode cX11_cross 78 = .ok (.getfield 153, 3) := by decide +kernel
theorem dX11_cross_81 : decode cX11_cross 81 = .ok (.getfield 157, 3) := by decide +kernel
theorem dX11_cross_84 : decode cX11_cross 84 = .ok (.iload_n 2, 1) := by decide +kernel
theorem dX11_cross_85 : decode cX11_cross 85 = .ok (.iaload, 1) := by decide +kernel
theorem dX11_cross_86 : decode cX11_cross 86 = .ok (.iload_n 1, 1) := by decide +kernel
theorem dX11_cross_87 : decode cX11_cross 87 = .ok (.iload_n 3, 1) := by decide +kernel
theorem dX11_cross_88 : decode cX11_cross 88 = .ok (.invokestatic 120, 3) := by decide +kernel
theorem dX11_cross_91 : decode cX11_cross 91 = .ok (.iastore, 1) := by decide +kernel
theorem dX11_cross_92 : decode cX11_cross 92 = .ok (.iload 4, 2) := by decide +kernel
theorem dX11_cross_94 : decode cX11_cross 94 = .ok (.iload 5, 2) := by decide +kernel
theorem dX11_cross_96 : decode cX11_cross 96 = .ok (.if_icmp .ne 7, 3) := by decide +kernel
theorem dX11_cross_99 : decode cX11_cross 99 = .ok (.iconst 0, 1) := by decide +kernel
theorem dX11_cross_100 : decode cX11_cross 100 = .ok (.goto 4, 3) := by decide +kernel
theorem dX11_cross_103 : decode cX11_cross 103 = .ok (.iconst 1, 1) := by decide +kernel
theorem dX11_cross_104 : decode cX11_cross 104 = .ok (.ireturn, 1) := by decide +kernel
theorem dX11_lane_0 : decode cX11_lane 0 = .ok (.iload_n 1, 1) := by decide +kernel
theorem dX11_lane_1 : decode cX11_lane 1 = .ok (.iconst 0, 1) := by decide +kernel
theorem dX11_lane_2 : decode cX11_lane 2 = .ok (.iconst 3, 1) := by decide +kernel
theorem dX11_lane_3 : decode cX11_lane 3 = .ok (.invokestatic 53, 3) := by decide +kernel
theorem dX11_lane_6 : decode cX11_lane 6 = .ok (.ifCond .eq 10, 3) := by decide +kernel
theorem dX11_lane_9 : decode cX11_lane 9 = .ok (.iload_n 2, 1) := by decide +kernel
theorem dX11_lane_10 : decode cX11_lane 10 = .ok (.invokestatic 150, 3) := by decide +kernel
theorem dX11_lane_13 : decode cX11_lane 13 = .ok (.ifCond .ne 10, 3) := by decide +kernel
theorem dX11_lane_16 : decode cX11_lane 16 = .ok (.aload_n 0, 1) := by decide +kernel
theorem dX11_lane_17 : decode cX11_lane 17 = .ok (.ldc 57, 2) := by decide +kernel
theorem dX11_lane_19 : decode cX11_lane 19 = .ok (.invokevirtual 58, 3) := by decide +kernel
theorem dX11_lane_22 : decode cX11_lane 22 = .ok (.ireturn, 1) := by decide +kernel
theorem dX11_lane_23 : decode cX11_lane 23 = .ok (.aload_n 0, 1) := by decide +kernel
theorem dX11_lane_24 : decode cX11_lane 24 = .ok (.getfield 21, 3) := by decide +kernel
theorem dX11_lane_27 : decode cX11_lane 27 = .ok (.getfield 153, 3) := by decide +kernel
theorem dX11_lane_30 : decode cX11_lane 30 = .ok (.getfield 160, 3) := by decide +kernel
theorem dX11_lane_33 : decode cX11_lane 33 = .ok (.iload_n 1, 1) := by decide +kernel
theorem dX11_lane_34 : decode cX11_lane 34 = .ok (.iaload, 1) := by decide +kernel
theorem dX11_lane_35 : decode cX11_lane 35 = .ok (.istore_n 3, 1) := by decide +kernel
theorem dX11_lane_36 : decode cX11_lane 36 = .ok (.aload_n 0, 1) := by decide +kernel
theorem dX11_lane_37 : decode cX11_lane 37 = .ok (.getfield 21, 3) := by decide +kernel
theorem dX11_lane_40 : decode cX11_lane 40 = .ok (.getfield 153, 3) := by decide +kernel
theorem dX11_lane_43 : decode cX11_lane 43 = .ok (.getfield 160, 3) := by decide +kernel
theorem dX11_lane_46 : decode cX11_lane 46 = .ok (.iload_n 1, 1) := by decide +kernel
theorem dX11_lane_47 : decode cX11_lane 47 = .ok (.iload_n 2, 1) := by decide +kernel
theorem dX11_lane_48 : decode cX11_lane 48 = .ok (.iastore, 1) := by decide +kernel
theorem dX11_lane_49 : decode cX11_lane 49 = .ok (.iload_n 3, 1) := by decide +kernel
theorem dX11_lane_50 : decode cX11_lane 50 = .ok (.ireturn, 1) := by decide +kernel
theorem dX11_wind_0 : decode cX11_wind 0 = .ok (.iload_n 1, 1) := by decide +kernel
theorem dX11_wind_1 : decode cX11_wind 1 = .ok (.iconst 0, 1) := by decide +kernel
theorem dX11_wind_2 : decode cX11_wind 2 = .ok (.bipush 40, 2) := by decide +kernel
theorem dX11_wind_4 : decode cX11_wind 4 = .ok (.invokestatic 53, 3) := by decide +kernel
theorem dX11_wind_7 : decode cX11_wind 7 = .ok (.ifCond .ne 10, 3) := by decide +kernel
theorem dX11_wind_10 : decode cX11_wind 10 = .ok (.aload_n 0, 1) := by decide +kernel
theorem dX11_wind_11 : decode cX11_wind 11 = .ok (.ldc 57, 2) := by decide +kernel
theorem dX11_wind_13 : decode cX11_wind 13 = .ok (.invokevirtual 58, 3) := by decide +kernel
theorem dX11_wind_16 : decode cX11_wind 16 = .ok (.ireturn, 1) := by decide +kernel
theorem dX11_wind_17 : decode cX11_wind 17 = .ok (.aload_n 0, 1) := by decide +kernel
theorem dX11_wind_18 : decode cX11_wind 18 = .ok (.getfield 21, 3) := by decide +kernel
theorem dX11_wind_21 : decode cX11_wind 21 = .ok (.getfield 163, 3) := by decide +kernel
theorem dX11_wind_24 : decode cX11_wind 24 = .ok (.istore_n 2, 1) := by decide +kernel
theorem dX11_wind_25 : decode cX11_wind 25 = .ok (.aload_n 0, 1) := by decide +kernel
theorem dX11_wind_26 : decode cX11_wind 26 = .ok (.getfield 21, 3) := by decide +kernel
theorem dX11_wind_29 : decode cX11_wind 29 = .ok (.iload_n 1, 1) := by decide +kernel
theorem dX11_wind_30 : decode cX11_wind 30 = .ok (.putfield 163, 3) := by decide +kernel
theorem dX11_wind_33 : decode cX11_wind 33 = .ok (.iload_n 2, 1) := by decide +kernel
theorem dX11_wind_34 : decode cX11_wind 34 = .ok (.ireturn, 1) := by decide +kernel
theorem dX11_link_0 : decode cX11_link 0 = .ok (.iload_n 1, 1) := by decide +kernel
theorem dX11_link_1 : decode cX11_link 1 = .ok (.iconst 0, 1) := by decide +kernel
theorem dX11_link_2 : decode cX11_link 2 = .ok (.iconst 3, 1) := by decide +kernel
theorem dX11_link_3 : decode cX11_link 3 = .ok (.invokestatic 53, 3) := by decide +kernel
theorem dX11_link_6 : decode cX11_link 6 = .ok (.ifCond .ne 10, 3) := by decide +kernel
theorem dX11_link_9 : decode cX11_link 9 = .ok (.aload_n 0, 1) := by decide +kernel
theorem dX11_link_10 : decode cX11_link 10 = .ok (.ldc 57, 2) := by decide +kernel
theorem dX11_link_12 : decode cX11_link 12 = .ok (.invokevirtual 58, 3) := by decide +kernel
theorem dX11_link_15 : decode cX11_link 15 = .ok (.ireturn, 1) := by decide +kernel
theorem dX11_link_16 : decode cX11_link 16 = .ok (.aload_n 0, 1) := by decide +kernel
theorem dX11_link_17 : decode cX11_link 17 = .ok (.getfield 21, 3) := by decide +kernel
theorem dX11_link_20 : decode cX11_link 20 = .ok (.getfield 166, 3) := by decide +kernel
theorem dX11_link_23 : decode cX11_link 23 = .ok (.istore_n 3, 1) := by decide +kernel
theorem dX11_link_24 : decode cX11_link 24 = .ok (.aload_n 0, 1) := by decide +kernel
theorem dX11_link_25 : decode cX11_link 25 = .ok (.getfield 21, 3) := by decide +kernel
theorem dX11_link_28 : decode cX11_link 28 = .ok (.iload_n 3, 1) := by decide +kernel
theorem dX11_link_29 : decode cX11_link 29 = .ok (.iload_n 1, 1) := by decide +kernel
theorem dX11_link_30 : decode cX11_link 30 = .ok (.iload_n 2, 1) := by decide +kernel
theorem dX11_link_31 : decode cX11_link 31 = .ok (.invokestatic 120, 3) := by decide +kernel
theorem dX11_link_34 : decode cX11_link 34 = .ok (.putfield 166, 3) := by decide +kernel
theorem dX11_link_37 : decode cX11_link 37 = .ok (.iload_n 3, 1) := by decide +kernel
theorem dX11_link_38 : decode cX11_link 38 = .ok (.aload_n 0, 1) := by decide +kernel
theorem dX11_link_39 : decode cX11_link 39 = .ok (.getfield 21, 3) := by decide +kernel
theorem dX11_link_42 : decode cX11_link 42 = .ok (.getfield 166, 3) := by decide +kernel
theorem dX11_link_45 : decode cX11_link 45 = .ok (.if_icmp .ne 7, 3) := by decide +kernel
theorem dX11_link_48 : decode cX11_link 48 = .ok (.iconst 0, 1) := by decide +kernel
theorem dX11_link_49 : decode cX11_link 49 = .ok (.goto 4, 3) := by decide +kernel
theorem dX11_link_52 : decode cX11_link 52 = .ok (.iconst 1, 1) := by decide +kernel
theorem dX11_link_53 : decode cX11_link 53 = .ok (.ireturn, 1) := by decide +kernel
theorem dX11_rule_0 : decode cX11_rule 0 = .ok (.iload_n 1, 1) := by decide +kernel
theorem dX11_rule_1 : decode cX11_rule 1 = .ok (.iconst 0, 1) := by decide +kernel
theorem dX11_rule_2 : decode cX11_rule 2 = .ok (.iconst 3, 1) := by decide +kernel
theorem dX11_rule_3 : decode cX11_rule 3 = .ok (.invokestatic 53, 3) := by decide +kernel
theorem dX11_rule_6 : decode cX11_rule 6 = .ok (.ifCond .ne 10, 3) := by decide +kernel
theorem dX11_rule_9 : decode cX11_rule 9 = .ok (.aload_n 0, 1) := by decide +kernel
theorem dX11_rule_10 : decode cX11_rule 10 = .ok (.ldc 57, 2) := by decide +kernel
theorem dX11_rule_12 : decode cX11_rule 12 = .ok (.invokevirtual 58, 3) := by decide +kernel
theorem dX11_rule_15 : decode cX11_rule 15 = .ok (.ireturn, 1) := by decide +kernel
theorem dX11_rule_16 : decode cX11_rule 16 = .ok (.iload_n 2, 1) := by decide +kernel
theorem dX11_rule_17 : decode cX11_rule 17 = .ok (.getstatic 169, 3) := by decide +kernel
theorem dX11_rule_20 : decode cX11_rule 20 = .ok (.iload_n 1, 1) := by decide +kernel
theorem dX11_rule_21 : decode cX11_rule 21 = .ok (.iaload, 1) := by decide +kernel
theorem dX11_rule_22 : decode cX11_rule 22 = .ok (.getstatic 172, 3) := by decide +kernel
theorem dX11_rule_25 : decode cX11_rule 25 = .ok (.iload_n 1, 1) := by decide +kernel
theorem dX11_rule_26 : decode cX11_rule 26 = .ok (.iaload, 1) := by decide +kernel
theorem dX11_rule_27 : decode cX11_rule 27 = .ok (.invokestatic 53, 3) := by decide +kernel
theorem dX11_rule_30 : decode cX11_rule 30 = .ok (.ifCond .ne 10, 3) := by decide +kernel
theorem dX11_rule_33 : decode cX11_rule 33 = .ok (.aload_n 0, 1) := by decide +kernel
theorem dX11_rule_34 : decode cX11_rule 34 = .ok (.ldc 57, 2) := by decide +kernel
theorem dX11_rule_36 : decode cX11_rule 36 = .ok (.invokevirtual 58, 3) := by decide +kernel
theorem dX11_rule_39 : decode cX11_rule 39 = .ok (.ireturn, 1) := by decide +kernel
theorem dX11_rule_40 : decode cX11_rule 40 = .ok (.aload_n 0, 1) := by decide +kernel
theorem dX11_rule_41 : decode cX11_rule 41 = .ok (.getfield 21, 3) := by decide +kernel
theorem dX11_rule_44 : decode cX11_rule 44 = .ok (.getfield 141, 3) := by decide +kernel
theorem dX11_rule_47 : decode cX11_rule 47 = .ok (.iload_n 1, 1) := by decide +kernel
theorem dX11_rule_48 : decode cX11_rule 48 = .ok (.iaload, 1) := by decide +kernel
theorem dX11_rule_49 : decode cX11_rule 49 = .ok (.istore_n 3, 1) := by decide +kernel
theorem dX11_rule_50 : decode cX11_rule 50 = .ok (.aload_n 0, 1) := by decide +kernel
theorem dX11_rule_51 : decode cX11_rule 51 = .ok (.getfield 21, 3) := by decide +kernel
theorem dX11_rule_54 : decode cX11_rule 54 = .ok (.getfield 141, 3) := by decide +kernel
theorem dX11_rule_57 : decode cX11_rule 57 = .ok (.iload_n 1, 1) := by decide +kernel
theorem dX11_rule_58 : decode cX11_rule 58 = .ok (.iload_n 2, 1) := by decide +kernel
theorem dX11_rule_59 : decode cX11_rule 59 = .ok (.iastore, 1) := by decide +kernel
theorem dX11_rule_60 : decode cX11_rule 60 = .ok (.iload_n 3, 1) := by decide +kernel
theorem dX11_rule_61 : decode cX11_rule 61 = .ok (.ireturn, 1) := by decide +kernel
theorem dX11_bound_0 : decode cX11_bound 0 = .ok (.iload_n 1, 1) := by decide +kernel
theorem dX11_bound_1 : decode cX11_bound 1 = .ok (.invokestatic 175, 3) := by decide +kernel
theorem dX11_bound_4 : decode cX11_bound 4 = .ok (.ifCond .ne 10, 3) := by decide +kernel
theorem dX11_bound_7 : decode cX11_bound 7 = .ok (.aload_n 0, 1) := by decide +kernel
theorem dX11_bound_8 : decode cX11_bound 8 = .ok (.ldc 57, 2) := by decide +kernel
theorem dX11_bound_10 : decode cX11_bound 10 = .ok (.invokevirtual 58, 3) := by decide +kernel
theorem dX11_bound_13 : decode cX11_bound 13 = .ok (.ireturn, 1) := by decide +kernel
theorem dX11_bound_14 : decode cX11_bound 14 = .ok (.iload_n 1, 1) := by decide +kernel
theorem dX11_bound_15 : decode cX11_bound 15 = .ok (.invokestatic 178, 3) := by decide +kernel
theorem dX11_bound_18 : decode cX11_bound 18 = .ok (.ireturn, 1) := by decide +kernel
theorem dX11_span_0 : decode cX11_span 0 = .ok (.iload_n 1, 1) := by decide +kernel
theorem dX11_span_1 : decode cX11_span 1 = .ok (.invokestatic 175, 3) := by decide +kernel
theorem dX11_span_4 : decode cX11_span 4 = .ok (.ifCond .eq 13, 3) := by decide +kernel
theorem dX11_span_7 : decode cX11_span 7 = .ok (.iload_n 2, 1) := by decide +kernel
theorem dX11_span_8 : decode cX11_span 8 = .ok (.iconst 1, 1) := by decide +kernel
theorem dX11_span_9 : decode cX11_span 9 = .ok (.bipush 30, 2) := by decide +kernel
theorem dX11_span_11 : decode cX11_span 11 = .ok (.invokestatic 53, 3) := by decide +kernel
theorem dX11_span_14 : decode cX11_span 14 = .ok (.ifCond .ne 10, 3) := by decide +kernel
theorem dX11_span_17 : decode cX11_span 17 = .ok (.aload_n 0, 1) := by decide +kernel
theorem dX11_span_18 : decode cX11_span 18 = .ok (.ldc 57, 2) := by decide +kernel
theorem dX11_span_20 : decode cX11_span 20 = .ok (.invokevirtual 58, 3) := by decide +kernel
theorem dX11_span_23 : decode cX11_span 23 = .ok (.ireturn, 1) := by decide +kernel
theorem dX11_span_24 : decode cX11_span 24 = .ok (.iload_n 1, 1) := by decide +kernel
theorem dX11_span_25 : decode cX11_span 25 = .ok (.iload_n 2, 1) := by decide +kernel
theorem dX11_span_26 : decode cX11_span 26 = .ok (.invokestatic 181, 3) := by decide +kernel
theorem dX11_span_29 : decode cX11_span 29 = .ok (.ireturn, 1) := by decide +kernel
theorem dX11_ask_0 : decode cX11_ask 0 = .ok (.aload_n 0, 1) := by decide +kernel
theorem dX11_ask_1 : decode cX11_ask 1 = .ok (.getfield 21, 3) := by decide +kernel
theorem dX11_ask_4 : decode cX11_ask 4 = .ok (.getfield 62, 3) := by decide +kernel
theorem dX11_ask_7 : decode cX11_ask 7 = .ok (.iload_n 1, 1) := by decide +kernel
theorem dX11_ask_8 : decode cX11_ask 8 = .ok (.invokevirtual 115, 3) := by decide +kernel
theorem dX11_ask_11 : decode cX11_ask 11 = .ok (.ifCond .eq 26, 3) := by decide +kernel
theorem dX11_ask_14 : decode cX11_ask 14 = .ok (.aload_n 0, 1) := by decide +kernel
theorem dX11_ask_15 : decode cX11_ask 15 = .ok (.iload_n 2, 1) := by decide +kernel
theorem dX11_ask_16 : decode cX11_ask 16 = .ok (.iload_n 1, 1) := by decide +kernel
theorem dX11_ask_17 : decode cX11_ask 17 = .ok (.invokevirtual 184, 3) := by decide +kernel
theorem dX11_ask_20 : decode cX11_ask 20 = .ok (.ifCond .eq 17, 3) := by decide +kernel
theorem dX11_ask_23 : decode cX11_ask 23 = .ok (.aload_n 0, 1) := by decide +kernel
theorem dX11_ask_24 : decode cX11_ask 24 = .ok (.getfield 21, 3) := by decide +kernel
theorem dX11_ask_27 : decode cX11_ask 27 = .ok (.getfield 72, 3) := by decide +kernel
theorem dX11_ask_30 : decode cX11_ask 30 = .ok (.iload_n 3, 1) := by decide +kernel
theorem dX11_ask_31 : decode cX11_ask 31 = .ok (.invokevirtual 108, 3) := by decide +kernel
theorem dX11_ask_34 : decode cX11_ask 34 = .ok (.ifCond .ne 10, 3) := by decide +kernel
theorem dX11_ask_37 : decode cX11_ask 37 = .ok (.aload_n 0, 1) := by decide +kernel
theorem dX11_ask_38 : decode cX11_ask 38 = .ok (.ldc 57, 2) := by decide +kernel
theorem dX11_ask_40 : decode cX11_ask 40 = .ok (.invokevirtual 58, 3) := by decide +kernel
theorem dX11_ask_43 : decode cX11_ask 43 = .ok (.ireturn, 1) := by decide +kernel
theorem dX11_ask_44 : decode cX11_ask 44 = .ok (.iload 4, 2) := by decide +kernel
theorem dX11_ask_46 : decode cX11_ask 46 = .ok (.invokestatic 187, 3) := by decide +kernel
theorem dX11_ask_49 : decode cX11_ask 49 = .ok (.ifCond .eq 14, 3) := by decide +kernel
theorem dX11_ask_52 : decode cX11_ask 52 = .ok (.iload 5, 2) := by decide +kernel
theorem dX11_ask_54 : decode cX11_ask 54 = .ok (.iconst 1, 1) := by decide +kernel
theorem dX11_ask_55 : decode cX11_ask 55 = .ok (.bipush 60, 2) := by decide +kernel
theorem dX11_ask_57 : decode cX11_ask 57 = .ok (.invokestatic 53, 3) := by decide +kernel
theorem dX11_ask_60 : decode cX11_ask 60 = .ok (.ifCond .ne 10, 3) := by decide +kernel
theorem dX11_ask_63 : decode cX11_ask 63 = .ok (.aload_n 0, 1) := by decide +kernel
theorem dX11_ask_64 : decode cX11_ask 64 = .ok (.ldc 57, 2) := by decide +kernel
theorem dX11_ask_66 : decode cX11_ask 66 = .ok (.invokevirtual 58, 3) := by decide +kernel
theorem dX11_ask_69 : decode cX11_ask 69 = .ok (.ireturn, 1) := by decide +kernel
theorem dX11_ask_70 : decode cX11_ask 70 = .ok (.aload_n 0, 1) := by decide +kernel
theorem dX11_ask_71 : decode cX11_ask 71 = .ok (.getfield 21, 3) := by decide +kernel
theorem dX11_ask_74 : decode cX11_ask 74 = .ok (.getfield 190, 3) := by decide +kernel
theorem dX11_ask_77 : decode cX11_ask 77 = .ok (.getfield 194, 3) := by decide +kernel
theorem dX11_ask_80 : decode cX11_ask 80 = .ok (.bipush 20, 2) := by decide +kernel
theorem dX11_ask_82 : decode cX11_ask 82 = .ok (.if_icmp .lt 10, 3) := by decide +kernel
theorem dX11_ask_85 : decode cX11_ask 85 = .ok (.aload_n 0, 1) := by decide +kernel
theorem dX11_ask_86 : decode cX11_ask 86 = .ok (.ldc 82, 2) := by decide +kernel
theorem dX11_ask_88 : decode cX11_ask 88 = .ok (.invokevirtual 58, 3) := by decide +kernel
theorem dX11_ask_91 : decode cX11_ask 91 = .ok (.ireturn, 1) := by decide +kernel
theorem dX11_ask_92 : decode cX11_ask 92 = .ok (.aload_n 0, 1) := by decide +kernel
theorem dX11_ask_93 : decode cX11_ask 93 = .ok (.getfield 21, 3) := by decide +kernel
theorem dX11_ask_96 : decode cX11_ask 96 = .ok (.getfield 190, 3) := by decide +kernel
theorem dX11_ask_99 : decode cX11_ask 99 = .ok (.iload_n 1, 1) := by decide +kernel
theorem dX11_ask_100 : decode cX11_ask 100 = .ok (.iload_n 2, 1) := by decide +kernel
theorem dX11_ask_101 : decode cX11_ask 101 = .ok (.iload_n 3, 1) := by decide +kernel
theorem dX11_ask_102 : decode cX11_ask 102 = .ok (.iload 4, 2) := by decide +kernel
theorem dX11_ask_104 : decode cX11_ask 104 = .ok (.iload 5, 2) := by decide +kernel
theorem dX11_ask_106 : decode cX11_ask 106 = .ok (.invokevirtual 197, 3) := by decide +kernel
theorem dX11_ask_109 : decode cX11_ask 109 = .ok (.ireturn, 1) := by decide +kernel
theorem dX11_askIs_0 : decode cX11_askIs 0 = .ok (.aload_n 0, 1) := by decide +kernel
theorem dX11_askIs_1 : decode cX11_askIs 1 = .ok (.getfield 21, 3) := by decide +kernel
theorem dX11_askIs_4 : decode cX11_askIs 4 = .ok (.getfield 190, 3) := by decide +kernel
theorem dX11_askIs_7 : decode cX11_askIs 7 = .ok (.iload_n 1, 1) := by decide +kernel
theorem dX11_askIs_8 : decode cX11_askIs 8 = .ok (.invokevirtual 200, 3) := by decide +kernel
theorem dX11_askIs_11 : decode cX11_askIs 11 = .ok (.ifCond .eq 13, 3) := by decide +kernel
theorem dX11_askIs_14 : decode cX11_askIs 14 = .ok (.iload_n 2, 1) := by decide +kernel
theorem dX11_askIs_15 : decode cX11_askIs 15 = .ok (.iconst 0, 1) := by decide +kernel
theorem dX11_askIs_16 : decode cX11_askIs 16 = .ok (.bipush 9, 2) := by decide +kernel
theorem dX11_askIs_18 : decode cX11_askIs 18 = .ok (.invokestatic 53, 3) := by decide +kernel
theorem dX11_askIs_21 : decode cX11_askIs 21 = .ok (.ifCond .ne 10, 3) := by decide +kernel
theorem dX11_askIs_24 : decode cX11_askIs 24 = .ok (.aload_n 0, 1) := by decide +kernel
theorem dX11_askIs_25 : decode cX11_askIs 25 = .ok (.ldc 57, 2) := by decide +kernel
theorem dX11_askIs_27 : decode cX11_askIs 27 = .ok (.invokevirtual 58, 3) := by decide +kernel
theorem dX11_askIs_30 : decode cX11_askIs 30 = .ok (.ireturn, 1) := by decide +kernel
theorem dX11_askIs_31 : decode cX11_askIs 31 = .ok (.aload_n 0, 1) := by decide +kernel
theorem dX11_askIs_32 : decode cX11_askIs 32 = .ok (.getfield 21, 3) := by decide +kernel
theorem dX11_askIs_35 : decode cX11_askIs 35 = .ok (.getfield 190, 3) := by decide +kernel
theorem dX11_askIs_38 : decode cX11_askIs 38 = .ok (.iload_n 1, 1) := by decide +kernel
theorem dX11_askIs_39 : decode cX11_askIs 39 = .ok (.iload_n 2, 1) := by decide +kernel
theorem dX11_askIs_40 : decode cX11_askIs 40 = .ok (.invokevirtual 201, 3) := by decide +kernel
theorem dX11_askIs_43 : decode cX11_askIs 43 = .ok (.ireturn, 1) := by decide +kernel
theorem dX11_as_0 : decode cX11_as 0 = .ok (.aload_n 0, 1) := by decide +kernel
theorem dX11_as_1 : decode cX11_as 1 = .ok (.getfield 21, 3) := by decide +kernel
theorem dX11_as_4 : decode cX11_as 4 = .ok (.getfield 190, 3) := by decide +kernel
theorem dX11_as_7 : decode cX11_as 7 = .ok (.iload_n 1, 1) := by decide +kernel
theorem dX11_as_8 : decode cX11_as 8 = .ok (.invokevirtual 200, 3) := by decide +kernel
theorem dX11_as_11 : decode cX11_as 11 = .ok (.ifCond .eq 10, 3) := by decide +kernel
theorem dX11_as_14 : decode cX11_as 14 = .ok (.iload_n 2, 1) := by decide +kernel
theorem dX11_as_15 : decode cX11_as 15 = .ok (.invokestatic 175, 3) := by decide +kernel
theorem dX11_as_18 : decode cX11_as 18 = .ok (.ifCond .ne 10, 3) := by decide +kernel
theorem dX11_as_21 : decode cX11_as 21 = .ok (.aload_n 0, 1) := by decide +kernel
theorem dX11_as_22 : decode cX11_as 22 = .ok (.ldc 57, 2) := by decide +kernel
theorem dX11_as_24 : decode cX11_as 24 = .ok (.invokevirtual 58, 3) := by decide +kernel
theorem dX11_as_27 : decode cX11_as 27 = .ok (.ireturn, 1) := by decide +kernel
theorem dX11_as_28 : decode cX11_as 28 = .ok (.aload_n 0, 1) := by decide +kernel
theorem dX11_as_29 : decode cX11_as 29 = .ok (.getfield 21, 3) := by decide +kernel
theorem dX11_as_32 : decode cX11_as 32 = .ok (.getfield 190, 3) := by decide +kernel
theorem dX11_as_35 : decode cX11_as 35 = .ok (.getfield 202, 3) := by decide +kernel
theorem dX11_as_38 : decode cX11_as 38 = .ok (.iload_n 1, 1) := by decide +kernel
theorem dX11_as_39 : decode cX11_as 39 = .ok (.iaload, 1) := by decide +kernel
theorem dX11_as_40 : decode cX11_as 40 = .ok (.iload_n 2, 1) := by decide +kernel
theorem dX11_as_41 : decode cX11_as 41 = .ok (.invokestatic 205, 3) := by decide +kernel
theorem dX11_as_44 : decode cX11_as 44 = .ok (.ifCond .ne 10, 3) := by decide +kernel
theorem dX11_as_47 : decode cX11_as 47 = .ok (.aload_n 0, 1) := by decide +kernel
theorem dX11_as_48 : decode cX11_as 48 = .ok (.ldc 208, 2) := by decide +kernel
theorem dX11_as_50 : decode cX11_as 50 = .ok (.invokevirtual 58, 3) := by decide +kernel
theorem dX11_as_53 : decode cX11_as 53 = .ok (.ireturn, 1) := by decide +kernel
theorem dX11_as_54 : decode cX11_as 54 = .ok (.iload_n 1, 1) := by decide +kernel
theorem dX11_as_55 : decode cX11_as 55 = .ok (.ireturn, 1) := by decide +kernel
theorem dX11_back_0 : decode cX11_back 0 = .ok (.aload_n 0, 1) := by decide +kernel
theorem dX11_back_1 : decode cX11_back 1 = .ok (.getfield 21, 3) := by decide +kernel
theorem dX11_back_4 : decode cX11_back 4 = .ok (.getfield 190, 3) := by decide +kernel
theorem dX11_back_7 : decode cX11_back 7 = .ok (.iload_n 1, 1) := by decide +kernel
theorem dX11_back_8 : decode cX11_back 8 = .ok (.invokevirtual 200, 3) := by decide +kernel
theorem dX11_back_11 : decode cX11_back 11 = .ok (.ifCond .ne 10, 3) := by decide +kernel
theorem dX11_back_14 : decode cX11_back 14 = .ok (.aload_n 0, 1) := by decide +kernel
theorem dX11_back_15 : decode cX11_back 15 = .ok (.ldc 57, 2) := by decide +kernel
theorem dX11_back_17 : decode cX11_back 17 = .ok (.invokevirtual 58, 3) := by decide +kernel
theorem dX11_back_20 : decode cX11_back 20 = .ok (.ireturn, 1) := by decide +kernel
theorem dX11_back_21 : decode cX11_back 21 = .ok (.aload_n 0, 1) := by decide +kernel
theorem dX11_back_22 : decode cX11_back 22 = .ok (.getfield 21, 3) := by decide +kernel
theorem dX11_back_25 : decode cX11_back 25 = .ok (.getfield 190, 3) := by decide +kernel
theorem dX11_back_28 : decode cX11_back 28 = .ok (.getfield 209, 3) := by decide +kernel
theorem dX11_back_31 : decode cX11_back 31 = .ok (.iload_n 1, 1) := by decide +kernel
theorem dX11_back_32 : decode cX11_back 32 = .ok (.iaload, 1) := by decide +kernel
theorem dX11_back_33 : decode cX11_back 33 = .ok (.ifCond .eq 10, 3) := by decide +kernel
theorem dX11_back_36 : decode cX11_back 36 = .ok (.aload_n 0, 1) := by decide +kernel
theorem dX11_back_37 : decode cX11_back 37 = .ok (.ldc 137, 2) := by decide +kernel
theorem dX11_back_39 : decode cX11_back 39 = .ok (.invokevirtual 58, 3) := by decide +kernel
theorem dX11_back_42 : decode cX11_back 42 = .ok (.ireturn, 1) := by decide +kernel
theorem dX11_back_43 : decode cX11_back 43 = .ok (.aload_n 0, 1) := by decide +kernel
theorem dX11_back_44 : decode cX11_back 44 = .ok (.getfield 21, 3) := by decide +kernel
theorem dX11_back_47 : decode cX11_back 47 = .ok (.getfield 190, 3) := by decide +kernel
theorem dX11_back_50 : decode cX11_back 50 = .ok (.getfield 209, 3) := by decide +kernel
theorem dX11_back_53 : decode cX11_back 53 = .ok (.iload_n 1, 1) := by decide +kernel
theorem dX11_back_54 : decode cX11_back 54 = .ok (.iconst 3, 1) := by decide +kernel
theorem dX11_back_55 : decode cX11_back 55 = .ok (.iastore, 1) := by decide +kernel
theorem dX11_back_56 : decode cX11_back 56 = .ok (.iconst 1, 1) := by decide +kernel
theorem dX11_back_57 : decode cX11_back 57 = .ok (.ireturn, 1) := by decide +kernel
theorem dX11_why_0 : decode cX11_why 0 = .ok (.aload_n 0, 1) := by decide +kernel
theorem dX11_why_1 : decode cX11_why 1 = .ok (.getfield 21, 3) := by decide +kernel
theorem dX11_why_4 : decode cX11_why 4 = .ok (.getfield 190, 3) := by decide +kernel
theorem dX11_why_7 : decode cX11_why 7 = .ok (.iload_n 1, 1) := by decide +kernel
theorem dX11_why_8 : decode cX11_why 8 = .ok (.invokevirtual 200, 3) := by decide +kernel
theorem dX11_why_11 : decode cX11_why 11 = .ok (.ifCond .ne 10, 3) := by decide +kernel
theorem dX11_why_14 : decode cX11_why 14 = .ok (.aload_n 0, 1) := by decide +kernel
theorem dX11_why_15 : decode cX11_why 15 = .ok (.ldc 57, 2) := by decide +kernel
theorem dX11_why_17 : decode cX11_why 17 = .ok (.invokevirtual 58, 3) := by decide +kernel
theorem dX11_why_20 : decode cX11_why 20 = .ok (.ireturn, 1) := by decide +kernel
theorem dX11_why_21 : decode cX11_why 21 = .ok (.aload_n 0, 1) := by decide +kernel
theorem dX11_why_22 : decode cX11_why 22 = .ok (.getfield 21, 3) := by decide +kernel
theorem dX11_why_25 : decode cX11_why 25 = .ok (.getfield 190, 3) := by decide +kernel
theorem dX11_why_28 : decode cX11_why 28 = .ok (.getfield 209, 3) := by decide +kernel
theorem dX11_why_31 : decode cX11_why 31 = .ok (.iload_n 1, 1) := by decide +kernel
theorem dX11_why_32 : decode cX11_why 32 = .ok (.iaload, 1) := by decide +kernel
theorem dX11_why_33 : decode cX11_why 33 = .ok (.ifCond .eq 10, 3) := by decide +kernel
theorem dX11_why_36 : decode cX11_why 36 = .ok (.aload_n 0, 1) := by decide +kernel
theorem dX11_why_37 : decode cX11_why 37 = .ok (.ldc 137, 2) := by decide +kernel
theorem dX11_why_39 : decode cX11_why 39 = .ok (.invokevirtual 58, 3) := by decide +kernel
theorem dX11_why_42 : decode cX11_why 42 = .ok (.ireturn, 1) := by decide +kernel
theorem dX11_why_43 : decode cX11_why 43 = .ok (.aload_n 0, 1) := by decide +kernel
theorem dX11_why_44 : decode cX11_why 44 = .ok (.getfield 21, 3) := by decide +kernel
theorem dX11_why_47 : decode cX11_why 47 = .ok (.iload_n 1, 1) := by decide +kernel
theorem dX11_why_48 : decode cX11_why 48 = .ok (.aload_n 0, 1) := by decide +kernel
theorem dX11_why_49 : decode cX11_why 49 = .ok (.getfield 21, 3) := by decide +kernel
theorem dX11_why_52 : decode cX11_why 52 = .ok (.invokevirtual 210, 3) := by decide +kernel
theorem dX11_why_55 : decode cX11_why 55 = .ok (.invokevirtual 213, 3) := by decide +kernel
theorem dX11_why_58 : decode cX11_why 58 = .ok (.ireturn, 1) := by decide +kernel
theorem dX11_clear_0 : decode cX11_clear 0 = .ok (.iload_n 1, 1) := by decide +kernel
theorem dX11_clear_1 : decode cX11_clear 1 = .ok (.invokestatic 150, 3) := by decide +kernel
theorem dX11_clear_4 : decode cX11_clear 4 = .ok (.ifCond .eq 13, 3) := by decide +kernel
theorem dX11_clear_7 : decode cX11_clear 7 = .ok (.iload_n 2, 1) := by decide +kernel
theorem dX11_clear_8 : decode cX11_clear 8 = .ok (.iconst 1, 1) := by decide +kernel
theorem dX11_clear_9 : decode cX11_clear 9 = .ok (.bipush 60, 2) := by decide +kernel
theorem dX11_clear_11 : decode cX11_clear 11 = .ok (.invokestatic 53, 3) := by decide +kernel
theorem dX11_clear_14 : decode cX11_clear 14 = .ok (.ifCond .ne 10, 3) := by decide +kernel
theorem dX11_clear_17 : decode cX11_clear 17 = .ok (.aload_n 0, 1) := by decide +kernel
theorem dX11_clear_18 : decode cX11_clear 18 = .ok (.ldc 57, 2) := by decide +kernel
theorem dX11_clear_20 : decode cX11_clear 20 = .ok (.invokevirtual 58, 3) := by decide +kernel
theorem dX11_clear_23 : decode cX11_clear 23 = .ok (.ireturn, 1) := by decide +kernel
theorem dX11_clear_24 : decode cX11_clear 24 = .ok (.aload_n 0, 1) := by decide +kernel
theorem dX11_clear_25 : decode cX11_clear 25 = .ok (.getfield 21, 3) := by decide +kernel
theorem dX11_clear_28 : decode cX11_clear 28 = .ok (.getfield 153, 3) := by decide +kernel
theorem dX11_clear_31 : decode cX11_clear 31 = .ok (.iload_n 1, 1) := by decide +kernel
theorem dX11_clear_32 : decode cX11_clear 32 = .ok (.aload_n 0, 1) := by decide +kernel
theorem dX11_clear_33 : decode cX11_clear 33 = .ok (.getfield 21, 3) := by decide +kernel
theorem dX11_clear_36 : decode cX11_clear 36 = .ok (.getfield 138, 3) := by decide +kernel
theorem dX11_clear_39 : decode cX11_clear 39 = .ok (.iload_n 2, 1) := by decide +kernel
theorem dX11_clear_40 : decode cX11_clear 40 = .ok (.invokevirtual 216, 3) := by decide +kernel
theorem dX11_clear_43 : decode cX11_clear 43 = .ok (.ifCond .eq 7, 3) := by decide +kernel
theorem dX11_clear_46 : decode cX11_clear 46 = .ok (.iconst 1, 1) := by decide +kernel
theorem dX11_clear_47 : decode cX11_clear 47 = .ok (.goto 4, 3) := by decide +kernel
theorem dX11_clear_50 : decode cX11_clear 50 = .ok (.iconst 0, 1) := by decide +kernel
theorem dX11_clear_51 : decode cX11_clear 51 = .ok (.ireturn, 1) := by decide +kernel
theorem dX11_next_0 : decode cX11_next 0 = .ok (.aload_n 0, 1) := by decide +kernel
theorem dX11_next_1 : decode cX11_next 1 = .ok (.getfield 21, 3) := by decide +kernel
theorem dX11_next_4 : decode cX11_next 4 = .ok (.aload_n 0, 1) := by decide +kernel
theorem dX11_next_5 : decode cX11_next 5 = .ok (.getfield 21, 3) := by decide +kernel
theorem dX11_next_8 : decode cX11_next 8 = .ok (.invokevirtual 210, 3) := by decide +kernel
theorem dX11_next_11 : decode cX11_next 11 = .ok (.invokevirtual 219, 3) := by decide +kernel
theorem dX11_next_14 : decode cX11_next 14 = .ok (.ireturn, 1) := by decide +kernel
theorem dX11_feed_0 : decode cX11_feed 0 = .ok (.iload_n 2, 1) := by decide +kernel
theorem dX11_feed_1 : decode cX11_feed 1 = .ok (.iconst 1, 1) := by decide +kernel
theorem dX11_feed_2 : decode cX11_feed 2 = .ok (.iconst 4, 1) := by decide +kernel
theorem dX11_feed_3 : decode cX11_feed 3 = .ok (.invokestatic 53, 3) := by decide +kernel
theorem dX11_feed_6 : decode cX11_feed 6 = .ok (.ifCond .ne 10, 3) := by decide +kernel
theorem dX11_feed_9 : decode cX11_feed 9 = .ok (.aload_n 0, 1) := by decide +kernel
theorem dX11_feed_10 : decode cX11_feed 10 = .ok (.ldc 57, 2) := by decide +kernel
theorem dX11_feed_12 : decode cX11_feed 12 = .ok (.invokevirtual 58, 3) := by decide +kernel
theorem dX11_feed_15 : decode cX11_feed 15 = .ok (.ireturn, 1) := by decide +kernel
theorem dX11_feed_16 : decode cX11_feed 16 = .ok (.aload_n 0, 1) := by decide +kernel
theorem dX11_feed_17 : decode cX11_feed 17 = .ok (.getfield 41, 3) := by decide +kernel
theorem dX11_feed_20 : decode cX11_feed 20 = .ok (.getfield 222, 3) := by decide +kernel
theorem dX11_feed_23 : decode cX11_feed 23 = .ok (.iload_n 2, 1) := by decide +kernel
theorem dX11_feed_24 : decode cX11_feed 24 = .ok (.iadd, 1) := by decide +kernel
theorem dX11_feed_25 : decode cX11_feed 25 = .ok (.bipush 100, 2) := by decide +kernel
theorem dX11_feed_27 : decode cX11_feed 27 = .ok (.if_icmp .le 10, 3) := by decide +kernel
theorem dX11_feed_30 : decode cX11_feed 30 = .ok (.aload_n 0, 1) := by decide +kernel
theorem dX11_feed_31 : decode cX11_feed 31 = .ok (.ldc 82, 2) := by decide +kernel
theorem dX11_feed_33 : decode cX11_feed 33 = .ok (.invokevirtual 58, 3) := by decide +kernel
theorem dX11_feed_36 : decode cX11_feed 36 = .ok (.ireturn, 1) := by decide +kernel
theorem dX11_feed_37 : decode cX11_feed 37 = .ok (.iload_n 2, 1) := by decide +kernel
theorem dX11_feed_38 : decode cX11_feed 38 = .ok (.iconst 1, 1) := by decide +kernel
theorem dX11_feed_39 : decode cX11_feed 39 = .ok (.isub, 1) := by decide +kernel
theorem dX11_feed_40 : decode cX11_feed 40 = .ok (.istore_n 3, 1) := by decide +kernel
theorem dX11_feed_41 : decode cX11_feed 41 = .ok (.iload_n 3, 1) := by decide +kernel
theorem dX11_feed_42 : decode cX11_feed 42 = .ok (.ifCond .lt 26, 3) := by decide +kernel
theorem dX11_feed_45 : decode cX11_feed 45 = .ok (.aload_n 0, 1) := by decide +kernel
theorem dX11_feed_46 : decode cX11_feed 46 = .ok (.getfield 41, 3) := by decide +kernel
theorem dX11_feed_49 : decode cX11_feed 49 = .ok (.iload_n 1, 1) := by decide +kernel
theorem dX11_feed_50 : decode cX11_feed 50 = .ok (.bipush 8, 2) := by decide +kernel
theorem dX11_feed_52 : decode cX11_feed 52 = .ok (.iload_n 3, 1) := by decide +kernel
theorem dX11_feed_53 : decode cX11_feed 53 = .ok (.imul, 1) := by decide +kernel
theorem dX11_feed_54 : decode cX11_feed 54 = .ok (.ishr, 1) := by decide +kernel
theorem dX11_feed_55 : decode cX11_feed 55 = .ok (.sipush 255, 3) := by decide +kernel
theorem dX11_feed_58 : decode cX11_feed 58 = .ok (.iand, 1) := by decide +kernel
theorem dX11_feed_59 : decode cX11_feed 59 = .ok (.invokevirtual 223, 3) := by decide +kernel
theorem dX11_feed_62 : decode cX11_feed 62 = .ok (.iinc 3 (-1), 3) := by decide +kernel
theorem dX11_feed_65 : decode cX11_feed 65 = .ok (.goto (-24), 3) := by decide +kernel
theorem dX11_feed_68 : decode cX11_feed 68 = .ok (.aload_n 0, 1) := by decide +kernel
theorem dX11_feed_69 : decode cX11_feed 69 = .ok (.getfield 41, 3) := by decide +kernel
theorem dX11_feed_72 : decode cX11_feed 72 = .ok (.getfield 222, 3) := by decide +kernel
theorem dX11_feed_75 : decode cX11_feed 75 = .ok (.ireturn, 1) := by decide +kernel
theorem dX11_wipe_0 : decode cX11_wipe 0 = .ok (.aload_n 0, 1) := by decide +kernel
theorem dX11_wipe_1 : decode cX11_wipe 1 = .ok (.getfield 41, 3) := by decide +kernel
theorem dX11_wipe_4 : decode cX11_wipe 4 = .ok (.getfield 222, 3) := by decide +kernel
theorem dX11_wipe_7 : decode cX11_wipe 7 = .ok (.istore_n 1, 1) := by decide +kernel
theorem dX11_wipe_8 : decode cX11_wipe 8 = .ok (.aload_n 0, 1) := by decide +kernel
theorem dX11_wipe_9 : decode cX11_wipe 9 = .ok (.getfield 41, 3) := by decide +kernel
theorem dX11_wipe_12 : decode cX11_wipe 12 = .ok (.iconst 0, 1) := by decide +kernel
theorem dX11_wipe_13 : decode cX11_wipe 13 = .ok (.putfield 222, 3) := by decide +kernel
theorem dX11_wipe_16 : decode cX11_wipe 16 = .ok (.iload_n 1, 1) := by decide +kernel
theorem dX11_wipe_17 : decode cX11_wipe 17 = .ok (.ireturn, 1) := by decide +kernel
theorem dX11_text_0 : decode cX11_text 0 = .ok (.iload_n 1, 1) := by decide +kernel
theorem dX11_text_1 : decode cX11_text 1 = .ok (.iconst 0, 1) := by decide +kernel
theorem dX11_text_2 : decode cX11_text 2 = .ok (.iconst 1, 1) := by decide +kernel
theorem dX11_text_3 : decode cX11_text 3 = .ok (.invokestatic 53, 3) := by decide +kernel
theorem dX11_text_6 : decode cX11_text 6 = .ok (.ifCond .ne 10, 3) := by decide +kernel
theorem dX11_text_9 : decode cX11_text 9 = .ok (.aload_n 0, 1) := by decide +kernel
theorem dX11_text_10 : decode cX11_text 10 = .ok (.ldc 57, 2) := by decide +kernel
theorem dX11_text_12 : decode cX11_text 12 = .ok (.invokevirtual 58, 3) := by decide +kernel
theorem dX11_text_15 : decode cX11_text 15 = .ok (.ireturn, 1) := by decide +kernel
theorem dX11_text_16 : decode cX11_text 16 = .ok (.aload_n 0, 1) := by decide +kernel
theorem dX11_text_17 : decode cX11_text 17 = .ok (.getfield 21, 3) := by decide +kernel
theorem dX11_text_20 : decode cX11_text 20 = .ok (.getfield 226, 3) := by decide +kernel
theorem dX11_text_23 : decode cX11_text 23 = .ok (.bipush 6, 2) := by decide +kernel
theorem dX11_text_25 : decode cX11_text 25 = .ok (.if_icmp .lt 10, 3) := by decide +kernel
theorem dX11_text_28 : decode cX11_text 28 = .ok (.aload_n 0, 1) := by decide +kernel
theorem dX11_text_29 : decode cX11_text 29 = .ok (.ldc 82, 2) := by decide +kernel
theorem dX11_text_31 : decode cX11_text 31 = .ok (.invokevirtual 58, 3) := by decide +kernel
theorem dX11_text_34 : decode cX11_text 34 = .ok (.ireturn, 1) := by decide +kernel
theorem dX11_text_35 : decode cX11_text 35 = .ok (.aload_n 0, 1) := by decide +kernel
theorem dX11_text_36 : decode cX11_text 36 = .ok (.getfield 41, 3) := by decide +kernel
theorem dX11_text_39 : decode cX11_text 39 = .ok (.invokevirtual 229, 3) := by decide +kernel
theorem dX11_text_42 : decode cX11_text 42 = .ok (.istore_n 2, 1) := by decide +kernel
theorem dX11_text_43 : decode cX11_text 43 = .ok (.aload_n 0, 1) := by decide +kernel
theorem dX11_text_44 : decode cX11_text 44 = .ok (.getfield 41, 3) := by decide +kernel
theorem dX11_text_47 : decode cX11_text 47 = .ok (.iconst 0, 1) := by decide +kernel
theorem dX11_text_48 : decode cX11_text 48 = .ok (.putfield 222, 3) := by decide +kernel
theorem dX11_text_51 : decode cX11_text 51 = .ok (.iload_n 2, 1) := by decide +kernel
theorem dX11_text_52 : decode cX11_text 52 = .ok (.ifCond .lt 7, 3) := by decide +kernel
theorem dX11_text_55 : decode cX11_text 55 = .ok (.iconst (-1), 1) := by decide +kernel
theorem dX11_text_56 : decode cX11_text 56 = .ok (.iload_n 2, 1) := by decide +kernel
theorem dX11_text_57 : decode cX11_text 57 = .ok (.isub, 1) := by decide +kernel
theorem dX11_text_58 : decode cX11_text 58 = .ok (.ireturn, 1) := by decide +kernel
theorem dX11_text_59 : decode cX11_text 59 = .ok (.aload_n 0, 1) := by decide +kernel
theorem dX11_text_60 : decode cX11_text 60 = .ok (.getfield 21, 3) := by decide +kernel
theorem dX11_text_63 : decode cX11_text 63 = .ok (.getfield 226, 3) := by decide +kernel
theorem dX11_text_66 : decode cX11_text 66 = .ok (.istore_n 3, 1) := by decide +kernel
theorem dX11_text_67 : decode cX11_text 67 = .ok (.aload_n 0, 1) := by decide +kernel
theorem dX11_text_68 : decode cX11_text 68 = .ok (.getfield 10, 3) := by decide +kernel
theorem dX11_text_71 : decode cX11_text 71 = .ok (.iload_n 3, 1) := by decide +kernel
theorem dX11_text_72 : decode cX11_text 72 = .ok (.aload_n 0, 1) := by decide +kernel
theorem dX11_text_73 : decode cX11_text 73 = .ok (.getfield 41, 3) := by decide +kernel
theorem dX11_text_76 : decode cX11_text 76 = .ok (.getfield 232, 3) := by decide +kernel
theorem dX11_text_79 : decode cX11_text 79 = .ok (.aload_n 0, 1) := by decide +kernel
theorem dX11_text_80 : decode cX11_text 80 = .ok (.getfield 41, 3) := by decide +kernel
theorem dX11_text_83 : decode cX11_text 83 = .ok (.getfield 235, 3) := by decide +kernel
theorem dX11_text_86 : decode cX11_text 86 = .ok (.invokevirtual 238, 3) := by decide +kernel
theorem dX11_text_89 : decode cX11_text 89 = .ok (.aload_n 0, 1) := by decide +kernel
theorem dX11_text_90 : decode cX11_text 90 = .ok (.getfield 21, 3) := by decide +kernel
theorem dX11_text_93 : decode cX11_text 93 = .ok (.iload_n 3, 1) := by decide +kernel
theorem dX11_text_94 : decode cX11_text 94 = .ok (.iconst 1, 1) := by decide +kernel
theorem dX11_text_95 : decode cX11_text 95 = .ok (.iadd, 1) := by decide +kernel
theorem dX11_text_96 : decode cX11_text 96 = .ok (.putfield 226, 3) := by decide +kernel
theorem dX11_text_99 : decode cX11_text 99 = .ok (.aload_n 0, 1) := by decide +kernel
theorem dX11_text_100 : decode cX11_text 100 = .ok (.getfield 21, 3) := by decide +kernel
theorem dX11_text_103 : decode cX11_text 103 = .ok (.getfield 241, 3) := by decide +kernel
theorem dX11_text_106 : decode cX11_text 106 = .ok (.iload_n 1, 1) := by decide +kernel
theorem dX11_text_107 : decode cX11_text 107 = .ok (.iload_n 3, 1) := by decide +kernel
theorem dX11_text_108 : decode cX11_text 108 = .ok (.iastore, 1) := by decide +kernel
theorem dX11_text_109 : decode cX11_text 109 = .ok (.iload_n 3, 1) := by decide +kernel
theorem dX11_text_110 : decode cX11_text 110 = .ok (.ireturn, 1) := by decide +kernel
theorem dX11_force_0 : decode cX11_force 0 = .ok (.iload_n 1, 1) := by decide +kernel
theorem dX11_force_1 : decode cX11_force 1 = .ok (.iconst 0, 1) := by decide +kernel
theorem dX11_force_2 : decode cX11_force 2 = .ok (.iconst 1, 1) := by decide +kernel
theorem dX11_force_3 : decode cX11_force 3 = .ok (.invokestatic 53, 3) := by decide +kernel
theorem dX11_force_6 : decode cX11_force 6 = .ok (.ifCond .ne 10, 3) := by decide +kernel
theorem dX11_force_9 : decode cX11_force 9 = .ok (.aload_n 0, 1) := by decide +kernel
theorem dX11_force_10 : decode cX11_force 10 = .ok (.ldc 57, 2) := by decide +kernel
theorem dX11_force_12 : decode cX11_force 12 = .ok (.invokevirtual 58, 3) := by decide +kernel
theorem dX11_force_15 : decode cX11_force 15 = .ok (.ireturn, 1) := by decide +kernel
theorem dX11_force_16 : decode cX11_force 16 = .ok (.aload_n 0, 1) := by decide +kernel
theorem dX11_force_17 : decode cX11_force 17 = .ok (.getfield 21, 3) := by decide +kernel
theorem dX11_force_20 : decode cX11_force 20 = .ok (.getfield 241, 3) := by decide +kernel
theorem dX11_force_23 : decode cX11_force 23 = .ok (.iload_n 1, 1) := by decide +kernel
theorem dX11_force_24 : decode cX11_force 24 = .ok (.iaload, 1) := by decide +kernel
theorem dX11_force_25 : decode cX11_force 25 = .ok (.ifCond .ge 10, 3) := by decide +kernel
theorem dX11_force_28 : decode cX11_force 28 = .ok (.aload_n 0, 1) := by decide +kernel
theorem dX11_force_29 : decode cX11_force 29 = .ok (.ldc 244, 2) := by decide +kernel
theorem dX11_force_31 : decode cX11_force 31 = .ok (.invokevirtual 58, 3) := by decide +kernel
theorem dX11_force_34 : decode cX11_force 34 = .ok (.ireturn, 1) := by decide +kernel
theorem dX11_force_35 : decode cX11_force 35 = .ok (.aload_n 0, 1) := by decide +kernel
theorem dX11_force_36 : decode cX11_force 36 = .ok (.getfield 21, 3) := by decide +kernel
theorem dX11_force_39 : decode cX11_force 39 = .ok (.getfield 241, 3) := by decide +kernel
theorem dX11_force_42 : decode cX11_force 42 = .ok (.iload_n 1, 1) := by decide +kernel
theorem dX11_force_43 : decode cX11_force 43 = .ok (.iaload, 1) := by decide +kernel
theorem dX11_force_44 : decode cX11_force 44 = .ok (.ireturn, 1) := by decide +kernel
theorem dX11_says_0 : decode cX11_says 0 = .ok (.iload_n 1, 1) := by decide +kernel
theorem dX11_says_1 : decode cX11_says 1 = .ok (.iconst 0, 1) := by decide +kernel
theorem dX11_says_2 : decode cX11_says 2 = .ok (.aload_n 0, 1) := by decide +kernel
theorem dX11_says_3 : decode cX11_says 3 = .ok (.getfield 21, 3) := by decide +kernel
theorem dX11_says_6 : decode cX11_says 6 = .ok (.getfield 226, 3) := by decide +kernel
theorem dX11_says_9 : decode cX11_says 9 = .ok (.iconst 1, 1) := by decide +kernel
theorem dX11_says_10 : decode cX11_says 10 = .ok (.isub, 1) := by decide +kernel
theorem dX11_says_11 : decode cX11_says 11 = .ok (.invokestatic 53, 3) := by decide +kernel
theorem dX11_says_14 : decode cX11_says 14 = .ok (.ifCond .ne 10, 3) := by decide +kernel
theorem dX11_says_17 : decode cX11_says 17 = .ok (.aload_n 0, 1) := by decide +kernel
theorem dX11_says_18 : decode cX11_says 18 = .ok (.ldc 57, 2) := by decide +kernel
theorem dX11_says_20 : decode cX11_says 20 = .ok (.invokevirtual 58, 3) := by decide +kernel
theorem dX11_says_23 : decode cX11_says 23 = .ok (.ireturn, 1) := by decide +kernel
theorem dX11_says_24 : decode cX11_says 24 = .ok (.aload_n 0, 1) := by decide +kernel
theorem dX11_says_25 : decode cX11_says 25 = .ok (.getfield 10, 3) := by decide +kernel
theorem dX11_says_28 : decode cX11_says 28 = .ok (.iload_n 1, 1) := by decide +kernel
theorem dX11_says_29 : decode cX11_says 29 = .ok (.iload_n 2, 1) := by decide +kernel
theorem dX11_says_30 : decode cX11_says 30 = .ok (.iload_n 3, 1) := by decide +kernel
theorem dX11_says_31 : decode cX11_says 31 = .ok (.iload 4, 2) := by decide +kernel
theorem dX11_says_33 : decode cX11_says 33 = .ok (.aload_n 0, 1) := by decide +kernel
theorem dX11_says_34 : decode cX11_says 34 = .ok (.getfield 21, 3) := by decide +kernel
theorem dX11_says_37 : decode cX11_says 37 = .ok (.getfield 163, 3) := by decide +kernel
theorem dX11_says_40 : decode cX11_says 40 = .ok (.invokevirtual 245, 3) := by decide +kernel
theorem dX11_says_43 : decode cX11_says 43 = .ok (.ireturn, 1) := by decide +kernel
theorem dX11_run_0 : decode cX11_run 0 = .ok (.iload_n 1, 1) := by decide +kernel
theorem dX11_run_1 : decode cX11_run 1 = .ok (.iconst 1, 1) := by decide +kernel
theorem dX11_run_2 : decode cX11_run 2 = .ok (.bipush 100, 2) := by decide +kernel
theorem dX11_run_4 : decode cX11_run 4 = .ok (.invokestatic 53, 3) := by decide +kernel
theorem dX11_run_7 : decode cX11_run 7 = .ok (.ifCond .ne 10, 3) := by decide +kernel
theorem dX11_run_10 : decode cX11_run 10 = .ok (.aload_n 0, 1) := by decide +kernel
theorem dX11_run_11 : decode cX11_run 11 = .ok (.ldc 57, 2) := by decide +kernel
theorem dX11_run_13 : decode cX11_run 13 = .ok (.invokevirtual 58, 3) := by decide +kernel
theorem dX11_run_16 : decode cX11_run 16 = .ok (.ireturn, 1) := by decide +kernel
theorem dX11_run_17 : decode cX11_run 17 = .ok (.aload_n 0, 1) := by decide +kernel
theorem dX11_run_18 : decode cX11_run 18 = .ok (.getfield 21, 3) := by decide +kernel
theorem dX11_run_21 : decode cX11_run 21 = .ok (.getfield 138, 3) := by decide +kernel
theorem dX11_run_24 : decode cX11_run 24 = .ok (.iload_n 1, 1) := by decide +kernel
theorem dX11_run_25 : decode cX11_run 25 = .ok (.iadd, 1) := by decide +kernel
theorem dX11_run_26 : decode cX11_run 26 = .ok (.sipush 900, 3) := by decide +kernel
theorem dX11_run_29 : decode cX11_run 29 = .ok (.if_icmp .le 10, 3) := by decide +kernel
theorem dX11_run_32 : decode cX11_run 32 = .ok (.aload_n 0, 1) := by decide +kernel
theorem dX11_run_33 : decode cX11_run 33 = .ok (.ldc 82, 2) := by decide +kernel
theorem dX11_run_35 : decode cX11_run 35 = .ok (.invokevirtual 58, 3) := by decide +kernel
theorem dX11_run_38 : decode cX11_run 38 = .ok (.ireturn, 1) := by decide +kernel
theorem dX11_run_39 : decode cX11_run 39 = .ok (.aload_n 0, 1) := by decide +kernel
theorem dX11_run_40 : decode cX11_run 40 = .ok (.getfield 21, 3) := by decide +kernel
theorem dX11_run_43 : decode cX11_run 43 = .ok (.iload_n 1, 1) := by decide +kernel
theorem dX11_run_44 : decode cX11_run 44 = .ok (.invokevirtual 248, 3) := by decide +kernel
theorem dX11_run_47 : decode cX11_run 47 = .ok (.pop, 1) := by decide +kernel
theorem dX11_run_48 : decode cX11_run 48 = .ok (.aload_n 0, 1) := by decide +kernel
theorem dX11_run_49 : decode cX11_run 49 = .ok (.getfield 21, 3) := by decide +kernel
theorem dX11_run_52 : decode cX11_run 52 = .ok (.getfield 138, 3) := by decide +kernel
theorem dX11_run_55 : decode cX11_run 55 = .ok (.ireturn, 1) := by decide +kernel
theorem dX11_ahead_0 : decode cX11_ahead 0 = .ok (.iload_n 1, 1) := by decide +kernel
theorem dX11_ahead_1 : decode cX11_ahead 1 = .ok (.iconst 0, 1) := by decide +kernel
theorem dX11_ahead_2 : decode cX11_ahead 2 = .ok (.sipush 200, 3) := by decide +kernel
theorem dX11_ahead_5 : decode cX11_ahead 5 = .ok (.invokestatic 53, 3) := by decide +kernel
theorem dX11_ahead_8 : decode cX11_ahead 8 = .ok (.ifCond .eq 12, 3) := by decide +kernel
theorem dX11_ahead_11 : decode cX11_ahead 11 = .ok (.iload_n 2, 1) := by decide +kernel
theorem dX11_ahead_12 : decode cX11_ahead 12 = .ok (.iconst 0, 1) := by decide +kernel
theorem dX11_ahead_13 : decode cX11_ahead 13 = .ok (.iconst 3, 1) := by decide +kernel
theorem dX11_ahead_14 : decode cX11_ahead 14 = .ok (.invokestatic 53, 3) := by decide +kernel
theorem dX11_ahead_17 : decode cX11_ahead 17 = .ok (.ifCond .ne 10, 3) := by decide +kernel
theorem dX11_ahead_20 : decode cX11_ahead 20 = .ok (.aload_n 0, 1) := by decide +kernel
theorem dX11_ahead_21 : decode cX11_ahead 21 = .ok (.ldc 57, 2) := by decide +kernel
theorem dX11_ahead_23 : decode cX11_ahead 23 = .ok (.invokevirtual 58, 3) := by decide +kernel
theorem dX11_ahead_26 : decode cX11_ahead 26 = .ok (.ireturn, 1) := by decide +kernel
theorem dX11_ahead_27 : decode cX11_ahead 27 = .ok (.aload_n 0, 1) := by decide +kernel
theorem dX11_ahead_28 : decode cX11_ahead 28 = .ok (.getfield 28, 3) := by decide +kernel
theorem dX11_ahead_31 : decode cX11_ahead 31 = .ok (.aload_n 0, 1) := by decide +kernel
theorem dX11_ahead_32 : decode cX11_ahead 32 = .ok (.getfield 21, 3) := by decide +kernel
theorem dX11_ahead_35 : decode cX11_ahead 35 = .ok (.invokevirtual 251, 3) := by decide +kernel
theorem dX11_ahead_38 : decode cX11_ahead 38 = .ok (.aload_n 0, 1) := by decide +kernel
theorem dX11_ahead_39 : decode cX11_ahead 39 = .ok (.getfield 28, 3) := by decide +kernel
theorem dX11_ahead_42 : decode cX11_ahead 42 = .ok (.iload_n 1, 1) := by decide +kernel
theorem dX11_ahead_43 : decode cX11_ahead 43 = .ok (.invokevirtual 248, 3) := by decide +kernel
theorem dX11_ahead_46 : decode cX11_ahead 46 = .ok (.istore_n 3, 1) := by decide +kernel
theorem dX11_ahead_47 : decode cX11_ahead 47 = .ok (.iload_n 2, 1) := by decide +kernel
theorem dX11_ahead_48 : decode cX11_ahead 48 = .ok (.tableswitch 52 0 2 #[28, 34, 40], 28) := by decide +kernel
theorem dX11_ahead_76 : decode cX11_ahead 76 = .ok (.iload_n 3, 1) := by decide +kernel
theorem dX11_ahead_77 : decode cX11_ahead 77 = .ok (.sipush 1000, 3) := by decide +kernel
theorem dX11_ahead_80 : decode cX11_ahead 80 = .ok (.irem, 1) := by decide +kernel
theorem dX11_ahead_81 : decode cX11_ahead 81 = .ok (.ireturn, 1) := by decide +kernel
theorem dX11_ahead_82 : decode cX11_ahead 82 = .ok (.iload_n 3, 1) := by decide +kernel
theorem dX11_ahead_83 : decode cX11_ahead 83 = .ok (.sipush 1000, 3) := by decide +kernel
theorem dX11_ahead_86 : decode cX11_ahead 86 = .ok (.idiv, 1) := by decide +kernel
theorem dX11_ahead_87 : decode cX11_ahead 87 = .ok (.ireturn, 1) := by decide +kernel
theorem dX11_ahead_88 : decode cX11_ahead 88 = .ok (.aload_n 0, 1) := by decide +kernel
theorem dX11_ahead_89 : decode cX11_ahead 89 = .ok (.getfield 28, 3) := by decide +kernel
theorem dX11_ahead_92 : decode cX11_ahead 92 = .ok (.getfield 190, 3) := by decide +kernel
theorem dX11_ahead_95 : decode cX11_ahead 95 = .ok (.iconst 1, 1) := by decide +kernel
theorem dX11_ahead_96 : decode cX11_ahead 96 = .ok (.invokevirtual 255, 3) := by decide +kernel
theorem dX11_ahead_99 : decode cX11_ahead 99 = .ok (.ireturn, 1) := by decide +kernel
theorem dX11_ahead_100 : decode cX11_ahead 100 = .ok (.aload_n 0, 1) := by decide +kernel
theorem dX11_ahead_101 : decode cX11_ahead 101 = .ok (.getfield 28, 3) := by decide +kernel
theorem dX11_ahead_104 : decode cX11_ahead 104 = .ok (.getfield 190, 3) := by decide +kernel
theorem dX11_ahead_107 : decode cX11_ahead 107 = .ok (.iconst 0, 1) := by decide +kernel
theorem dX11_ahead_108 : decode cX11_ahead 108 = .ok (.invokevirtual 255, 3) := by decide +kernel
theorem dX11_ahead_111 : decode cX11_ahead 111 = .ok (.ireturn, 1) := by decide +kernel
theorem dX11_late_0 : decode cX11_late 0 = .ok (.iload_n 1, 1) := by decide +kernel
theorem dX11_late_1 : decode cX11_late 1 = .ok (.aload_n 0, 1) := by decide +kernel
theorem dX11_late_2 : decode cX11_late 2 = .ok (.getfield 21, 3) := by decide +kernel
theorem dX11_late_5 : decode cX11_late 5 = .ok (.getfield 138, 3) := by decide +kernel
theorem dX11_late_8 : decode cX11_late 8 = .ok (.aload_n 0, 1) := by decide +kernel
theorem dX11_late_9 : decode cX11_late 9 = .ok (.getfield 21, 3) := by decide +kernel
theorem dX11_late_12 : decode cX11_late 12 = .ok (.getfield 138, 3) := by decide +kernel
theorem dX11_late_15 : decode cX11_late 15 = .ok (.sipush 200, 3) := by decide +kernel
theorem dX11_late_18 : decode cX11_late 18 = .ok (.iadd, 1) := by decide +kernel
theorem dX11_late_19 : decode cX11_late 19 = .ok (.invokestatic 53, 3) := by decide +kernel
theorem dX11_late_22 : decode cX11_late 22 = .ok (.ifCond .ne 10, 3) := by decide +kernel
theorem dX11_late_25 : decode cX11_late 25 = .ok (.aload_n 0, 1) := by decide +kernel
theorem dX11_late_26 : decode cX11_late 26 = .ok (.ldc 57, 2) := by decide +kernel
theorem dX11_late_28 : decode cX11_late 28 = .ok (.invokevirtual 58, 3) := by decide +kernel
theorem dX11_late_31 : decode cX11_late 31 = .ok (.ireturn, 1) := by decide +kernel
theorem dX11_late_32 : decode cX11_late 32 = .ok (.aload_n 0, 1) := by decide +kernel
theorem dX11_late_33 : decode cX11_late 33 = .ok (.getfield 28, 3) := by decide +kernel
theorem dX11_late_36 : decode cX11_late 36 = .ok (.aload_n 0, 1) := by decide +kernel
theorem dX11_late_37 : decode cX11_late 37 = .ok (.getfield 21, 3) := by decide +kernel
theorem dX11_late_40 : decode cX11_late 40 = .ok (.invokevirtual 251, 3) := by decide +kernel
theorem dX11_late_43 : decode cX11_late 43 = .ok (.aload_n 0, 1) := by decide +kernel
theorem dX11_late_44 : decode cX11_late 44 = .ok (.getfield 28, 3) := by decide +kernel
theorem dX11_late_47 : decode cX11_late 47 = .ok (.iload_n 1, 1) := by decide +kernel
theorem dX11_late_48 : decode cX11_late 48 = .ok (.aload_n 0, 1) := by decide +kernel
theorem dX11_late_49 : decode cX11_late 49 = .ok (.getfield 21, 3) := by decide +kernel
theorem dX11_late_52 : decode cX11_late 52 = .ok (.getfield 138, 3) := by decide +kernel
theorem dX11_late_55 : decode cX11_late 55 = .ok (.isub, 1) := by decide +kernel
theorem dX11_late_56 : decode cX11_late 56 = .ok (.iconst 1, 1) := by decide +kernel
theorem dX11_late_57 : decode cX11_late 57 = .ok (.iadd, 1) := by decide +kernel
theorem dX11_late_58 : decode cX11_late 58 = .ok (.invokevirtual 248, 3) := by decide +kernel
theorem dX11_late_61 : decode cX11_late 61 = .ok (.pop, 1) := by decide +kernel
theorem dX11_late_62 : decode cX11_late 62 = .ok (.aload_n 0, 1) := by decide +kernel
theorem dX11_late_63 : decode cX11_late 63 = .ok (.getfield 28, 3) := by decide +kernel
theorem dX11_late_66 : decode cX11_late 66 = .ok (.getfield 190, 3) := by decide +kernel
theorem dX11_late_69 : decode cX11_late 69 = .ok (.iconst 0, 1) := by decide +kernel
theorem dX11_late_70 : decode cX11_late 70 = .ok (.invokevirtual 255, 3) := by decide +kernel
theorem dX11_late_73 : decode cX11_late 73 = .ok (.ireturn, 1) := by decide +kernel
theorem dX11_check_0 : decode cX11_check 0 = .ok (.iload_n 1, 1) := by decide +kernel
theorem dX11_check_1 : decode cX11_check 1 = .ok (.invokestatic 258, 3) := by decide +kernel
theorem dX11_check_4 : decode cX11_check 4 = .ok (.ifCond .ne 10, 3) := by decide +kernel
theorem dX11_check_7 : decode cX11_check 7 = .ok (.aload_n 0, 1) := by decide +kernel
theorem dX11_check_8 : decode cX11_check 8 = .ok (.ldc 57, 2) := by decide +kernel
theorem dX11_check_10 : decode cX11_check 10 = .ok (.invokevirtual 58, 3) := by decide +kernel
theorem dX11_check_13 : decode cX11_check 13 = .ok (.ireturn, 1) := by decide +kernel
theorem dX11_check_14 : decode cX11_check 14 = .ok (.aload_n 0, 1) := by decide +kernel
theorem dX11_check_15 : decode cX11_check 15 = .ok (.getfield 34, 3) := by decide +kernel
theorem dX11_check_18 : decode cX11_check 18 = .ok (.getfield 259, 3) := by decide +kernel
theorem dX11_check_21 : decode cX11_check 21 = .ok (.iload_n 1, 1) := by decide +kernel
theorem dX11_check_22 : decode cX11_check 22 = .ok (.iaload, 1) := by decide +kernel
theorem dX11_check_23 : decode cX11_check 23 = .ok (.ifCond .ne 11, 3) := by decide +kernel
theorem dX11_check_26 : decode cX11_check 26 = .ok (.aload_n 0, 1) := by decide +kernel
theorem dX11_check_27 : decode cX11_check 27 = .ok (.ldc_w 262, 3) := by decide +kernel
theorem dX11_check_30 : decode cX11_check 30 = .ok (.invokevirtual 58, 3) := by decide +kernel
theorem dX11_check_33 : decode cX11_check 33 = .ok (.ireturn, 1) := by decide +kernel
theorem dX11_check_34 : decode cX11_check 34 = .ok (.aload_n 0, 1) := by decide +kernel
theorem dX11_check_35 : decode cX11_check 35 = .ok (.getfield 28, 3) := by decide +kernel
theorem dX11_check_38 : decode cX11_check 38 = .ok (.aload_n 0, 1) := by decide +kernel
theorem dX11_check_39 : decode cX11_check 39 = .ok (.getfield 21, 3) := by decide +kernel
theorem dX11_check_42 : decode cX11_check 42 = .ok (.invokevirtual 251, 3) := by decide +kernel
theorem dX11_check_45 : decode cX11_check 45 = .ok (.aload_n 0, 1) := by decide +kernel
theorem dX11_check_46 : decode cX11_check 46 = .ok (.getfield 28, 3) := by decide +kernel
theorem dX11_check_49 : decode cX11_check 49 = .ok (.invokevirtual 210, 3) := by decide +kernel
theorem dX11_check_52 : decode cX11_check 52 = .ok (.istore_n 2, 1) := by decide +kernel
theorem dX11_check_53 : decode cX11_check 53 = .ok (.aload_n 0, 1) := by decide +kernel
theorem dX11_check_54 : decode cX11_check 54 = .ok (.getfield 34, 3) := by decide +kernel
theorem dX11_check_57 : decode cX11_check 57 = .ok (.getfield 263, 3) := by decide +kernel
theorem dX11_check_60 : decode cX11_check 60 = .ok (.iload_n 1, 1) := by decide +kernel
theorem dX11_check_61 : decode cX11_check 61 = .ok (.iaload, 1) := by decide +kernel
theorem dX11_check_62 : decode cX11_check 62 = .ok (.istore_n 3, 1) := by decide +kernel
theorem dX11_check_63 : decode cX11_check 63 = .ok (.iconst 0, 1) := by decide +kernel
theorem dX11_check_64 : decode cX11_check 64 = .ok (.istore 4, 2) := by decide +kernel
theorem dX11_check_66 : decode cX11_check 66 = .ok (.iload 4, 2) := by decide +kernel
theorem dX11_check_68 : decode cX11_check 68 = .ok (.iload_n 3, 1) := by decide +kernel
theorem dX11_check_69 : decode cX11_check 69 = .ok (.if_icmp .ge 57, 3) := by decide +kernel
theorem dX11_check_72 : decode cX11_check 72 = .ok (.aload_n 0, 1) := by decide +kernel
theorem dX11_check_73 : decode cX11_check 73 = .ok (.getfield 28, 3) := by decide +kernel
theorem dX11_check_76 : decode cX11_check 76 = .ok (.iload_n 2, 1) := by decide +kernel
theorem dX11_check_77 : decode cX11_check 77 = .ok (.invokevirtual 265, 3) := by decide +kernel
theorem dX11_check_80 : decode cX11_check 80 = .ok (.istore 5, 2) := by decide +kernel
theorem dX11_check_82 : decode cX11_check 82 = .ok (.iload 5, 2) := by decide +kernel
theorem dX11_check_84 : decode cX11_check 84 = .ok (.sipush 1000, 3) := by decide +kernel
theorem dX11_check_87 : decode cX11_check 87 = .ok (.irem, 1) := by decide +kernel
theorem dX11_check_88 : decode cX11_check 88 = .ok (.bipush 10, 2) := by decide +kernel
theorem dX11_check_90 : decode cX11_check 90 = .ok (.iload 5, 2) := by decide +kernel
theorem dX11_check_92 : decode cX11_check 92 = .ok (.sipush 1000, 3) := by decide +kernel
theorem dX11_check_95 : decode cX11_check 95 = .ok (.idiv, 1) := by decide +kernel
theorem dX11_check_96 : decode cX11_check 96 = .ok (.imul, 1) := by decide +kernel
theorem dX11_check_97 : decode cX11_check 97 = .ok (.iadd, 1) := by decide +kernel
theorem dX11_check_98 : decode cX11_check 98 = .ok (.istore 6, 2) := by decide +kernel
theorem dX11_check_100 : decode cX11_check 100 = .ok (.aload_n 0, 1) := by decide +kernel
theorem dX11_check_101 : decode cX11_check 101 = .ok (.getfield 34, 3) := by decide +kernel
theorem dX11_check_104 : decode cX11_check 104 = .ok (.getfield 268, 3) := by decide +kernel
theorem dX11_check_107 : decode cX11_check 107 = .ok (.iload_n 1, 1) := by decide +kernel
theorem dX11_check_108 : decode cX11_check 108 = .ok (.aaload, 1) := by decide +kernel
theorem dX11_check_109 : decode cX11_check 109 = .ok (.iload 4, 2) := by decide +kernel
theorem dX11_check_111 : decode cX11_check 111 = .ok (.iaload, 1) := by decide +kernel
theorem dX11_check_112 : decode cX11_check 112 = .ok (.iload 6, 2) := by decide +kernel
theorem dX11_check_114 : decode cX11_check 114 = .ok (.if_icmp .eq 6, 3) := by decide +kernel
theorem dX11_check_117 : decode cX11_check 117 = .ok (.iload 4, 2) := by decide +kernel
theorem dX11_check_119 : decode cX11_check 119 = .ok (.ireturn, 1) := by decide +kernel
theorem dX11_check_120 : decode cX11_check 120 = .ok (.iinc 4 1, 3) := by decide +kernel
theorem dX11_check_123 : decode cX11_check 123 = .ok (.goto (-57), 3) := by decide +kernel
theorem dX11_check_126 : decode cX11_check 126 = .ok (.iload_n 3, 1) := by decide +kernel
theorem dX11_check_127 : decode cX11_check 127 = .ok (.ireturn, 1) := by decide +kernel
theorem dX11_share_0 : decode cX11_share 0 = .ok (.aload_n 0, 1) := by decide +kernel
theorem dX11_share_1 : decode cX11_share 1 = .ok (.getfield 21, 3) := by decide +kernel
theorem dX11_share_4 : decode cX11_share 4 = .ok (.getfield 72, 3) := by decide +kernel
theorem dX11_share_7 : decode cX11_share 7 = .ok (.iload_n 1, 1) := by decide +kernel
theorem dX11_share_8 : decode cX11_share 8 = .ok (.invokevirtual 108, 3) := by decide +kernel
theorem dX11_share_11 : decode cX11_share 11 = .ok (.ifCond .eq 14, 3) := by decide +kernel
theorem dX11_share_14 : decode cX11_share 14 = .ok (.iload_n 2, 1) := by decide +kernel
theorem dX11_share_15 : decode cX11_share 15 = .ok (.iconst 0, 1) := by decide +kernel
theorem dX11_share_16 : decode cX11_share 16 = .ok (.sipush 9999, 3) := by decide +kernel
theorem dX11_share_19 : decode cX11_share 19 = .ok (.invokestatic 53, 3) := by decide +kernel
theorem dX11_share_22 : decode cX11_share 22 = .ok (.ifCond .ne 10, 3) := by decide +kernel
theorem dX11_share_25 : decode cX11_share 25 = .ok (.aload_n 0, 1) := by decide +kernel
theorem dX11_share_26 : decode cX11_share 26 = .ok (.ldc 57, 2) := by decide +kernel
theorem dX11_share_28 : decode cX11_share 28 = .ok (.invokevirtual 58, 3) := by decide +kernel
theorem dX11_share_31 : decode cX11_share 31 = .ok (.ireturn, 1) := by decide +kernel
theorem dX11_share_32 : decode cX11_share 32 = .ok (.aload_n 0, 1) := by decide +kernel
theorem dX11_share_33 : decode cX11_share 33 = .ok (.getfield 21, 3) := by decide +kernel
theorem dX11_share_36 : decode cX11_share 36 = .ok (.getfield 72, 3) := by decide +kernel
theorem dX11_share_39 : decode cX11_share 39 = .ok (.getfield 272, 3) := by decide +kernel
theorem dX11_share_42 : decode cX11_share 42 = .ok (.iload_n 1, 1) := by decide +kernel
theorem dX11_share_43 : decode cX11_share 43 = .ok (.iaload, 1) := by decide +kernel
theorem dX11_share_44 : decode cX11_share 44 = .ok (.istore_n 3, 1) := by decide +kernel
theorem dX11_share_45 : decode cX11_share 45 = .ok (.iload_n 3, 1) := by decide +kernel
theorem dX11_share_46 : decode cX11_share 46 = .ok (.ifCond .ne 10, 3) := by decide +kernel
theorem dX11_share_49 : decode cX11_share 49 = .ok (.aload_n 0, 1) := by decide +kernel
theorem dX11_share_50 : decode cX11_share 50 = .ok (.ldc 244, 2) := by decide +kernel
theorem dX11_share_52 : decode cX11_share 52 = .ok (.invokevirtual 58, 3) := by decide +kernel
theorem dX11_share_55 : decode cX11_share 55 = .ok (.ireturn, 1) := by decide +kernel
theorem dX11_share_56 : decode cX11_share 56 = .ok (.aload_n 0, 1) := by decide +kernel
theorem dX11_share_57 : decode cX11_share 57 = .ok (.getfield 21, 3) := by decide +kernel
theorem dX11_share_60 : decode cX11_share 60 = .ok (.getfield 62, 3) := by decide +kernel
theorem dX11_share_63 : decode cX11_share 63 = .ok (.iload_n 3, 1) := by decide +kernel
theorem dX11_share_64 : decode cX11_share 64 = .ok (.iload_n 2, 1) := by decide +kernel
theorem dX11_share_65 : decode cX11_share 65 = .ok (.invokevirtual 275, 3) := by decide +kernel
theorem dX11_share_68 : decode cX11_share 68 = .ok (.ireturn, 1) := by decide +kernel
theorem dX11_pay_0 : decode cX11_pay 0 = .ok (.aload_n 0, 1) := by decide +kernel
theorem dX11_pay_1 : decode cX11_pay 1 = .ok (.getfield 21, 3) := by decide +kernel
theorem dX11_pay_4 : decode cX11_pay 4 = .ok (.getfield 62, 3) := by decide +kernel
theorem dX11_pay_7 : decode cX11_pay 7 = .ok (.iload_n 1, 1) := by decide +kernel
theorem dX11_pay_8 : decode cX11_pay 8 = .ok (.invokevirtual 115, 3) := by decide +kernel
theorem dX11_pay_11 : decode cX11_pay 11 = .ok (.ifCond .eq 14, 3) := by decide +kernel
theorem dX11_pay_14 : decode cX11_pay 14 = .ok (.iload_n 2, 1) := by decide +kernel
theorem dX11_pay_15 : decode cX11_pay 15 = .ok (.iconst 1, 1) := by decide +kernel
theorem dX11_pay_16 : decode cX11_pay 16 = .ok (.ldc_w 278, 3) := by decide +kernel
theorem dX11_pay_19 : decode cX11_pay 19 = .ok (.invokestatic 53, 3) := by decide +kernel
theorem dX11_pay_22 : decode cX11_pay 22 = .ok (.ifCond .ne 10, 3) := by decide +kernel
theorem dX11_pay_25 : decode cX11_pay 25 = .ok (.aload_n 0, 1) := by decide +kernel
theorem dX11_pay_26 : decode cX11_pay 26 = .ok (.ldc 57, 2) := by decide +kernel
theorem dX11_pay_28 : decode cX11_pay 28 = .ok (.invokevirtual 58, 3) := by decide +kernel
theorem dX11_pay_31 : decode cX11_pay 31 = .ok (.ireturn, 1) := by decide +kernel
theorem dX11_pay_32 : decode cX11_pay 32 = .ok (.aload_n 0, 1) := by decide +kernel
theorem dX11_pay_33 : decode cX11_pay 33 = .ok (.getfield 21, 3) := by decide +kernel
theorem dX11_pay_36 : decode cX11_pay 36 = .ok (.getfield 62, 3) := by decide +kernel
theorem dX11_pay_39 : decode cX11_pay 39 = .ok (.getfield 279, 3) := by decide +kernel
theorem dX11_pay_42 : decode cX11_pay 42 = .ok (.iload_n 1, 1) := by decide +kernel
theorem dX11_pay_43 : decode cX11_pay 43 = .ok (.iaload, 1) := by decide +kernel
theorem dX11_pay_44 : decode cX11_pay 44 = .ok (.iload_n 2, 1) := by decide +kernel
theorem dX11_pay_45 : decode cX11_pay 45 = .ok (.if_icmp .ge 10, 3) := by decide +kernel
theorem dX11_pay_48 : decode cX11_pay 48 = .ok (.aload_n 0, 1) := by decide +kernel
theorem dX11_pay_49 : decode cX11_pay 49 = .ok (.ldc 137, 2) := by decide +kernel
theorem dX11_pay_51 : decode cX11_pay 51 = .ok (.invokevirtual 58, 3) := by decide +kernel
theorem dX11_pay_54 : decode cX11_pay 54 = .ok (.ireturn, 1) := by decide +kernel
theorem dX11_pay_55 : decode cX11_pay 55 = .ok (.aload_n 0, 1) := by decide +kernel
theorem dX11_pay_56 : decode cX11_pay 56 = .ok (.getfield 21, 3) := by decide +kernel
theorem dX11_pay_59 : decode cX11_pay 59 = .ok (.getfield 62, 3) := by decide +kernel
theorem dX11_pay_62 : decode cX11_pay 62 = .ok (.getfield 279, 3) := by decide +kernel
theorem dX11_pay_65 : decode cX11_pay 65 = .ok (.iload_n 1, 1) := by decide +kernel
theorem dX11_pay_66 : decode cX11_pay 66 = .ok (.dup2, 1) := by decide +kernel
theorem dX11_pay_67 : decode cX11_pay 67 = .ok (.iaload, 1) := by decide +kernel
theorem dX11_pay_68 : decode cX11_pay 68 = .ok (.iload_n 2, 1) := by decide +kernel
theorem dX11_pay_69 : decode cX11_pay 69 = .ok (.isub, 1) := by decide +kernel
theorem dX11_pay_70 : decode cX11_pay 70 = .ok (.iastore, 1) := by decide +kernel
theorem dX11_pay_71 : decode cX11_pay 71 = .ok (.aload_n 0, 1) := by decide +kernel
theorem dX11_pay_72 : decode cX11_pay 72 = .ok (.getfield 21, 3) := by decide +kernel
theorem dX11_pay_75 : decode cX11_pay 75 = .ok (.getfield 62, 3) := by decide +kernel
theorem dX11_pay_78 : decode cX11_pay 78 = .ok (.getfield 279, 3) := by decide +kernel
theorem dX11_pay_81 : decode cX11_pay 81 = .ok (.iload_n 1, 1) := by decide +kernel
theorem dX11_pay_82 : decode cX11_pay 82 = .ok (.iaload, 1) := by decide +kernel
theorem dX11_pay_83 : decode cX11_pay 83 = .ok (.ireturn, 1) := by decide +kernel
theorem dX11_sheet_0 : decode cX11_sheet 0 = .ok (.iload_n 1, 1) := by decide +kernel
theorem dX11_sheet_1 : decode cX11_sheet 1 = .ok (.invokestatic 258, 3) := by decide +kernel
theorem dX11_sheet_4 : decode cX11_sheet 4 = .ok (.ifCond .eq 10, 3) := by decide +kernel
theorem dX11_sheet_7 : decode cX11_sheet 7 = .ok (.iload_n 2, 1) := by decide +kernel
theorem dX11_sheet_8 : decode cX11_sheet 8 = .ok (.invokestatic 282, 3) := by decide +kernel
theorem dX11_sheet_11 : decode cX11_sheet 11 = .ok (.ifCond .ne 10, 3) := by decide +kernel
theorem dX11_sheet_14 : decode cX11_sheet 14 = .ok (.aload_n 0, 1) := by decide +kernel
theorem dX11_sheet_15 : decode cX11_sheet 15 = .ok (.ldc 57, 2) := by decide +kernel
theorem dX11_sheet_17 : decode cX11_sheet 17 = .ok (.invokevirtual 58, 3) := by decide +kernel
theorem dX11_sheet_20 : decode cX11_sheet 20 = .ok (.ireturn, 1) := by decide +kernel
theorem dX11_sheet_21 : decode cX11_sheet 21 = .ok (.iload_n 3, 1) := by decide +kernel
theorem dX11_sheet_22 : decode cX11_sheet 22 = .ok (.ifCond .ge 11, 3) := by decide +kernel
theorem dX11_sheet_25 : decode cX11_sheet 25 = .ok (.aload_n 0, 1) := by decide +kernel
theorem dX11_sheet_26 : decode cX11_sheet 26 = .ok (.ldc_w 285, 3) := by decide +kernel
theorem dX11_sheet_29 : decode cX11_sheet 29 = .ok (.invokevirtual 58, 3) := by decide +kernel
theorem dX11_sheet_32 : decode cX11_sheet 32 = .ok (.ireturn, 1) := by decide +kernel
theorem dX11_sheet_33 : decode cX11_sheet 33 = .ok (.iload_n 3, 1) := by decide +kernel
theorem dX11_sheet_34 : decode cX11_sheet 34 = .ok (.bipush 24, 2) := by decide +kernel
theorem dX11_sheet_36 : decode cX11_sheet 36 = .ok (.if_icmp .le 10, 3) := by decide +kernel
theorem dX11_sheet_39 : decode cX11_sheet 39 = .ok (.aload_n 0, 1) := by decide +kernel
theorem dX11_sheet_40 : decode cX11_sheet 40 = .ok (.ldc 57, 2) := by decide +kernel
theorem dX11_sheet_42 : decode cX11_sheet 42 = .ok (.invokevirtual 58, 3) := by decide +kernel
theorem dX11_sheet_45 : decode cX11_sheet 45 = .ok (.ireturn, 1) := by decide +kernel
theorem dX11_sheet_46 : decode cX11_sheet 46 = .ok (.aload_n 0, 1) := by decide +kernel
theorem dX11_sheet_47 : decode cX11_sheet 47 = .ok (.getfield 34, 3) := by decide +kernel
theorem dX11_sheet_50 : decode cX11_sheet 50 = .ok (.iload_n 1, 1) := by decide +kernel
theorem dX11_sheet_51 : decode cX11_sheet 51 = .ok (.iload_n 2, 1) := by decide +kernel
theorem dX11_sheet_52 : decode cX11_sheet 52 = .ok (.iload_n 3, 1) := by decide +kernel
theorem dX11_sheet_53 : decode cX11_sheet 53 = .ok (.invokevirtual 286, 3) := by decide +kernel
theorem dX11_sheet_56 : decode cX11_sheet 56 = .ok (.ireturn, 1) := by decide +kernel
theorem dX11_write_0 : decode cX11_write 0 = .ok (.iload_n 1, 1) := by decide +kernel
theorem dX11_write_1 : decode cX11_write 1 = .ok (.invokestatic 258, 3) := by decide +kernel
theorem dX11_write_4 : decode cX11_write 4 = .ok (.ifCond .ne 10, 3) := by decide +kernel
theorem dX11_write_7 : decode cX11_write 7 = .ok (.aload_n 0, 1) := by decide +kernel
theorem dX11_write_8 : decode cX11_write 8 = .ok (.ldc 57, 2) := by decide +kernel
theorem dX11_write_10 : decode cX11_write 10 = .ok (.invokevirtual 58, 3) := by decide +kernel
theorem dX11_write_13 : decode cX11_write 13 = .ok (.ireturn, 1) := by decide +kernel
theorem dX11_write_14 : decode cX11_write 14 = .ok (.aload_n 0, 1) := by decide +kernel
theorem dX11_write_15 : decode cX11_write 15 = .ok (.getfield 34, 3) := by decide +kernel
theorem dX11_write_18 : decode cX11_write 18 = .ok (.getfield 259, 3) := by decide +kernel
theorem dX11_write_21 : decode cX11_write 21 = .ok (.iload_n 1, 1) := by decide +kernel
theorem dX11_write_22 : decode cX11_write 22 = .ok (.iaload, 1) := by decide +kernel
theorem dX11_write_23 : decode cX11_write 23 = .ok (.ifCond .ne 11, 3) := by decide +kernel
theorem dX11_write_26 : decode cX11_write 26 = .ok (.aload_n 0, 1) := by decide +kernel
theorem dX11_write_27 : decode cX11_write 27 = .ok (.ldc_w 262, 3) := by decide +kernel
theorem dX11_write_30 : decode cX11_write 30 = .ok (.invokevirtual 58, 3) := by decide +kernel
theorem dX11_write_33 : decode cX11_write 33 = .ok (.ireturn, 1) := by decide +kernel
theorem dX11_write_34 : decode cX11_write 34 = .ok (.iload_n 2, 1) := by decide +kernel
theorem dX11_write_35 : decode cX11_write 35 = .ok (.iconst 0, 1) := by decide +kernel
theorem dX11_write_36 : decode cX11_write 36 = .ok (.aload_n 0, 1) := by decide +kernel
theorem dX11_write_37 : decode cX11_write 37 = .ok (.getfield 34, 3) := by decide +kernel
theorem dX11_write_40 : decode cX11_write 40 = .ok (.getfield 263, 3) := by decide +kernel
theorem dX11_write_43 : decode cX11_write 43 = .ok (.iload_n 1, 1) := by decide +kernel
theorem dX11_write_44 : decode cX11_write 44 = .ok (.iaload, 1) := by decide +kernel
theorem dX11_write_45 : decode cX11_write 45 = .ok (.iconst 1, 1) := by decide +kernel
theorem dX11_write_46 : decode cX11_write 46 = .ok (.isub, 1) := by decide +kernel
theorem dX11_write_47 : decode cX11_write 47 = .ok (.invokestatic 53, 3) := by decide +kernel
theorem dX11_write_50 : decode cX11_write 50 = .ok (.ifCond .ne 10, 3) := by decide +kernel
theorem dX11_write_53 : decode cX11_write 53 = .ok (.aload_n 0, 1) := by decide +kernel
theorem dX11_write_54 : decode cX11_write 54 = .ok (.ldc 57, 2) := by decide +kernel
theorem dX11_write_56 : decode cX11_write 56 = .ok (.invokevirtual 58, 3) := by decide +kernel
theorem dX11_write_59 : decode cX11_write 59 = .ok (.ireturn, 1) := by decide +kernel
theorem dX11_write_60 : decode cX11_write 60 = .ok (.aload_n 0, 1) := by decide +kernel
theorem dX11_write_61 : decode cX11_write 61 = .ok (.getfield 34, 3) := by decide +kernel
theorem dX11_write_64 : decode cX11_write 64 = .ok (.getfield 268, 3) := by decide +kernel
theorem dX11_write_67 : decode cX11_write 67 = .ok (.iload_n 1, 1) := by decide +kernel
theorem dX11_write_68 : decode cX11_write 68 = .ok (.aaload, 1) := by decide +kernel
theorem dX11_write_69 : decode cX11_write 69 = .ok (.iload_n 2, 1) := by decide +kernel
theorem dX11_write_70 : decode cX11_write 70 = .ok (.aload_n 0, 1) := by decide +kernel
theorem dX11_write_71 : decode cX11_write 71 = .ok (.getfield 34, 3) := by decide +kernel
theorem dX11_write_74 : decode cX11_write 74 = .ok (.getfield 259, 3) := by decide +kernel
theorem dX11_write_77 : decode cX11_write 77 = .ok (.iload_n 1, 1) := by decide +kernel
theorem dX11_write_78 : decode cX11_write 78 = .ok (.iaload, 1) := by decide +kernel
theorem dX11_write_79 : decode cX11_write 79 = .ok (.iload_n 3, 1) := by decide +kernel
theorem dX11_write_80 : decode cX11_write 80 = .ok (.invokestatic 290, 3) := by decide +kernel
theorem dX11_write_83 : decode cX11_write 83 = .ok (.iastore, 1) := by decide +kernel
theorem dX11_write_84 : decode cX11_write 84 = .ok (.iconst 1, 1) := by decide +kernel
theorem dX11_write_85 : decode cX11_write 85 = .ok (.ireturn, 1) := by decide +kernel
theorem dX11_copy_0 : decode cX11_copy 0 = .ok (.iload_n 1, 1) := by decide +kernel
theorem dX11_copy_1 : decode cX11_copy 1 = .ok (.invokestatic 258, 3) := by decide +kernel
theorem dX11_copy_4 : decode cX11_copy 4 = .ok (.ifCond .eq 10, 3) := by decide +kernel
theorem dX11_copy_7 : decode cX11_copy 7 = .ok (.iload_n 3, 1) := by decide +kernel
theorem dX11_copy_8 : decode cX11_copy 8 = .ok (.invokestatic 258, 3) := by decide +kernel
theorem dX11_copy_11 : decode cX11_copy 11 = .ok (.ifCond .ne 10, 3) := by decide +kernel
theorem dX11_copy_14 : decode cX11_copy 14 = .ok (.aload_n 0, 1) := by decide +kernel
theorem dX11_copy_15 : decode cX11_copy 15 = .ok (.ldc 57, 2) := by decide +kernel
theorem dX11_copy_17 : decode cX11_copy 17 = .ok (.invokevirtual 58, 3) := by decide +kernel
theorem dX11_copy_20 : decode cX11_copy 20 = .ok (.ireturn, 1) := by decide +kernel
theorem dX11_copy_21 : decode cX11_copy 21 = .ok (.aload_n 0, 1) := by decide +kernel
theorem dX11_copy_22 : decode cX11_copy 22 = .ok (.getfield 34, 3) := by decide +kernel
theorem dX11_copy_25 : decode cX11_copy 25 = .ok (.getfield 259, 3) := by decide +kernel
theorem dX11_copy_28 : decode cX11_copy 28 = .ok (.iload_n 1, 1) := by decide +kernel
theorem dX11_copy_29 : decode cX11_copy 29 = .ok (.iaload, 1) := by decide +kernel
theorem dX11_copy_30 : decode cX11_copy 30 = .ok (.ifCond .eq 15, 3) := by decide +kernel
theorem dX11_copy_33 : decode cX11_copy 33 = .ok (.aload_n 0, 1) := by decide +kernel
theorem dX11_copy_34 : decode cX11_copy 34 = .ok (.getfield 34, 3) := by decide +kernel
theorem dX11_copy_37 : decode cX11_copy 37 = .ok (.getfield 259, 3) := by decide +kernel
theorem dX11_copy_40 : decode cX11_copy 40 = .ok (.iload_n 3, 1) := by decide +kernel
theorem dX11_copy_41 : decode cX11_copy 41 = .ok (.iaload, 1) := by decide +kernel
theorem dX11_copy_42 : decode cX11_copy 42 = .ok (.ifCond .ne 11, 3) := by decide +kernel
theorem dX11_copy_45 : decode cX11_copy 45 = .ok (.aload_n 0, 1) := by decide +kernel
theorem dX11_copy_46 : decode cX11_copy 46 = .ok (.ldc_w 262, 3) := by decide +kernel
theorem dX11_copy_49 : decode cX11_copy 49 = .ok (.invokevirtual 58, 3) := by decide +kernel
theorem dX11_copy_52 : decode cX11_copy 52 = .ok (.ireturn, 1) := by decide +kernel
theorem dX11_copy_53 : decode cX11_copy 53 = .ok (.aload_n 0, 1) := by decide +kernel
theorem dX11_copy_54 : decode cX11_copy 54 = .ok (.getfield 34, 3) := by decide +kernel
theorem dX11_copy_57 : decode cX11_copy 57 = .ok (.getfield 259, 3) := by decide +kernel
theorem dX11_copy_60 : decode cX11_copy 60 = .ok (.iload_n 1, 1) := by decide +kernel
theorem dX11_copy_61 : decode cX11_copy 61 = .ok (.iaload, 1) := by decide +kernel
theorem dX11_copy_62 : decode cX11_copy 62 = .ok (.aload_n 0, 1) := by decide +kernel
theorem dX11_copy_63 : decode cX11_copy 63 = .ok (.getfield 34, 3) := by decide +kernel
theorem dX11_copy_66 : decode cX11_copy 66 = .ok (.getfield 259, 3) := by decide +kernel
theorem dX11_copy_69 : decode cX11_copy 69 = .ok (.iload_n 3, 1) := by decide +kernel
theorem dX11_copy_70 : decode cX11_copy 70 = .ok (.iaload, 1) := by decide +kernel
theorem dX11_copy_71 : decode cX11_copy 71 = .ok (.if_icmp .eq 10, 3) := by decide +kernel
theorem dX11_copy_74 : decode cX11_copy 74 = .ok (.aload_n 0, 1) := by decide +kernel
theorem dX11_copy_75 : decode cX11_copy 75 = .ok (.ldc 208, 2) := by decide +kernel
theorem dX11_copy_77 : decode cX11_copy 77 = .ok (.invokevirtual 58, 3) := by decide +kernel
theorem dX11_copy_80 : decode cX11_copy 80 = .ok (.ireturn, 1) := by decide +kernel
theorem dX11_copy_81 : decode cX11_copy 81 = .ok (.aload_n 0, 1) := by decide +kernel
theorem dX11_copy_82 : decode cX11_copy 82 = .ok (.getfield 34, 3) := by decide +kernel
theorem dX11_copy_85 : decode cX11_copy 85 = .ok (.iload_n 1, 1) := by decide +kernel
theorem dX11_copy_86 : decode cX11_copy 86 = .ok (.iload_n 2, 1) := by decide +kernel
theorem dX11_copy_87 : decode cX11_copy 87 = .ok (.iload 5, 2) := by decide +kernel
theorem dX11_copy_89 : decode cX11_copy 89 = .ok (.invokevirtual 293, 3) := by decide +kernel
theorem dX11_copy_92 : decode cX11_copy 92 = .ok (.ifCond .eq 18, 3) := by decide +kernel
theorem dX11_copy_95 : decode cX11_copy 95 = .ok (.aload_n 0, 1) := by decide +kernel
theorem dX11_copy_96 : decode cX11_copy 96 = .ok (.getfield 34, 3) := by decide +kernel
theorem dX11_copy_99 : decode cX11_copy 99 = .ok (.iload_n 3, 1) := by decide +kernel
theorem dX11_copy_100 : decode cX11_copy 100 = .ok (.iload 4, 2) := by decide +kernel
theorem dX11_copy_102 : decode cX11_copy 102 = .ok (.iload 5, 2) := by decide +kernel
theorem dX11_copy_104 : decode cX11_copy 104 = .ok (.invokevirtual 293, 3) := by decide +kernel
theorem dX11_copy_107 : decode cX11_copy 107 = .ok (.ifCond .ne 10, 3) := by decide +kernel
theorem dX11_copy_110 : decode cX11_copy 110 = .ok (.aload_n 0, 1) := by decide +kernel
theorem dX11_copy_111 : decode cX11_copy 111 = .ok (.ldc 57, 2) := by decide +kernel
theorem dX11_copy_113 : decode cX11_copy 113 = .ok (.invokevirtual 58, 3) := by decide +kernel
theorem dX11_copy_116 : decode cX11_copy 116 = .ok (.ireturn, 1) := by decide +kernel
theorem dX11_copy_117 : decode cX11_copy 117 = .ok (.aload_n 0, 1) := by decide +kernel
theorem dX11_copy_118 : decode cX11_copy 118 = .ok (.getfield 34, 3) := by decide +kernel
theorem dX11_copy_121 : decode cX11_copy 121 = .ok (.getfield 268, 3) := by decide +kernel
theorem dX11_copy_124 : decode cX11_copy 124 = .ok (.iload_n 1, 1) := by decide +kernel
theorem dX11_copy_125 : decode cX11_copy 125 = .ok (.aaload, 1) := by decide +kernel
theorem dX11_copy_126 : decode cX11_copy 126 = .ok (.iload_n 2, 1) := by decide +kernel
theorem dX11_copy_127 : decode cX11_copy 127 = .ok (.aload_n 0, 1) := by decide +kernel
theorem dX11_copy_128 : decode cX11_copy 128 = .ok (.getfield 34, 3) := by decide +kernel
theorem dX11_copy_131 : decode cX11_copy 131 = .ok (.getfield 268, 3) := by decide +kernel
theorem dX11_copy_134 : decode cX11_copy 134 = .ok (.iload_n 3, 1) := by decide +kernel
theorem dX11_copy_135 : decode cX11_copy 135 = .ok (.aaload, 1) := by decide +kernel
theorem dX11_copy_136 : decode cX11_copy 136 = .ok (.iload 4, 2) := by decide +kernel
theorem dX11_copy_138 : decode cX11_copy 138 = .ok (.iload 5, 2) := by decide +kernel
theorem dX11_copy_140 : decode cX11_copy 140 = .ok (.invokestatic 296, 3) := by decide +kernel
theorem dX11_copy_143 : decode cX11_copy 143 = .ok (.iload 5, 2) := by decide +kernel
theorem dX11_copy_145 : decode cX11_copy 145 = .ok (.ireturn, 1) := by decide +kernel
theorem dX11_image_0 : decode cX11_image 0 = .ok (.aload_n 0, 1) := by decide +kernel
theorem dX11_image_1 : decode cX11_image 1 = .ok (.getfield 25, 3) := by decide +kernel
theorem dX11_image_4 : decode cX11_image 4 = .ok (.aload_n 0, 1) := by decide +kernel
theorem dX11_image_5 : decode cX11_image 5 = .ok (.getfield 21, 3) := by decide +kernel
theorem dX11_image_8 : decode cX11_image 8 = .ok (.invokevirtual 251, 3) := by decide +kernel
theorem dX11_image_11 : decode cX11_image 11 = .ok (.aload_n 0, 1) := by decide +kernel
theorem dX11_image_12 : decode cX11_image 12 = .ok (.iconst 1, 1) := by decide +kernel
theorem dX11_image_13 : decode cX11_image 13 = .ok (.putfield 49, 3) := by decide +kernel
theorem dX11_image_16 : decode cX11_image 16 = .ok (.iconst 1, 1) := by decide +kernel
theorem dX11_image_17 : decode cX11_image 17 = .ok (.ireturn, 1) := by decide +kernel
theorem dX11_undo_0 : decode cX11_undo 0 = .ok (.aload_n 0, 1) := by decide +kernel
theorem dX11_undo_1 : decode cX11_undo 1 = .ok (.getfield 49, 3) := by decide +kernel
theorem dX11_undo_4 : decode cX11_undo 4 = .ok (.ifCond .ne 10, 3) := by decide +kernel
theorem dX11_undo_7 : decode cX11_undo 7 = .ok (.aload_n 0, 1) := by decide +kernel
theorem dX11_undo_8 : decode cX11_undo 8 = .ok (.ldc 244, 2) := by decide +kernel
theorem dX11_undo_10 : decode cX11_undo 10 = .ok (.invokevirtual 58, 3) := by decide +kernel
theorem dX11_undo_13 : decode cX11_undo 13 = .ok (.ireturn, 1) := by decide +kernel
theorem dX11_undo_14 : decode cX11_undo 14 = .ok (.aload_n 0, 1) := by decide +kernel
theorem dX11_undo_15 : decode cX11_undo 15 = .ok (.getfield 21, 3) := by decide +kernel
theorem dX11_undo_18 : decode cX11_undo 18 = .ok (.aload_n 0, 1) := by decide +kernel
theorem dX11_undo_19 : decode cX11_undo 19 = .ok (.getfield 25, 3) := by decide +kernel
theorem dX11_undo_22 : decode cX11_undo 22 = .ok (.invokevirtual 251, 3) := by decide +kernel
theorem dX11_undo_25 : decode cX11_undo 25 = .ok (.aload_n 0, 1) := by decide +kernel
theorem dX11_undo_26 : decode cX11_undo 26 = .ok (.getfield 21, 3) := by decide +kernel
theorem dX11_undo_29 : decode cX11_undo 29 = .ok (.getfield 138, 3) := by decide +kernel
theorem dX11_undo_32 : decode cX11_undo 32 = .ok (.ireturn, 1) := by decide +kernel
theorem dX11_tear_0 : decode cX11_tear 0 = .ok (.aload_n 0, 1) := by decide +kernel
theorem dX11_tear_1 : decode cX11_tear 1 = .ok (.getfield 49, 3) := by decide +kernel
theorem dX11_tear_4 : decode cX11_tear 4 = .ok (.ifCond .eq 7, 3) := by decide +kernel
theorem dX11_tear_7 : decode cX11_tear 7 = .ok (.iconst 1, 1) := by decide +kernel
theorem dX11_tear_8 : decode cX11_tear 8 = .ok (.goto 4, 3) := by decide +kernel
theorem dX11_tear_11 : decode cX11_tear 11 = .ok (.iconst 0, 1) := by decide +kernel
theorem dX11_tear_12 : decode cX11_tear 12 = .ok (.istore_n 1, 1) := by decide +kernel
theorem dX11_tear_13 : decode cX11_tear 13 = .ok (.aload_n 0, 1) := by decide +kernel
theorem dX11_tear_14 : decode cX11_tear 14 = .ok (.iconst 0, 1) := by decide +kernel
theorem dX11_tear_15 : decode cX11_tear 15 = .ok (.putfield 49, 3) := by decide +kernel
theorem dX11_tear_18 : decode cX11_tear 18 = .ok (.iload_n 1, 1) := by decide +kernel
theorem dX11_tear_19 : decode cX11_tear 19 = .ok (.ireturn, 1) := by decide +kernel
theorem dX11_count_0 : decode cX11_count 0 = .ok (.iload_n 1, 1) := by decide +kernel
theorem dX11_count_1 : decode cX11_count 1 = .ok (.tableswitch 189 0 13 #[71, 82, 93, 104, 115, 126, 126, 126, 126, 143, 151, 159, 167, 178], 71) := by decide +kernel
theorem dX11_count_72 : decode cX11_count 72 = .ok (.aload_n 0, 1) := by decide +kernel
theorem dX11_count_73 : decode cX11_count 73 = .ok (.getfield 21, 3) := by decide +kernel
theorem dX11_count_76 : decode cX11_count 76 = .ok (.getfield 72, 3) := by decide +kernel
theorem dX11_count_79 : decode cX11_count 79 = .ok (.getfield 76, 3) := by decide +kernel
theorem dX11_count_82 : decode cX11_count 82 = .ok (.ireturn, 1) := by decide +kernel
theorem dX11_count_83 : decode cX11_count 83 = .ok (.aload_n 0, 1) := by decide +kernel
theorem dX11_count_84 : decode cX11_count 84 = .ok (.getfield 21, 3) := by decide +kernel
theorem dX11_count_87 : decode cX11_count 87 = .ok (.getfield 62, 3) := by decide +kernel
theorem dX11_count_90 : decode cX11_count 90 = .ok (.getfield 87, 3) := by decide +kernel
theorem dX11_count_93 : decode cX11_count 93 = .ok (.ireturn, 1) := by decide +kernel
theorem dX11_count_94 : decode cX11_count 94 = .ok (.aload_n 0, 1) := by decide +kernel
theorem dX11_count_95 : decode cX11_count 95 = .ok (.getfield 21, 3) := by decide +kernel
theorem dX11_count_98 : decode cX11_count 98 = .ok (.getfield 91, 3) := by decide +kernel
theorem dX11_count_101 : decode cX11_count 101 = .ok (.getfield 95, 3) := by decide +kernel
theorem dX11_count_104 : decode cX11_count 104 = .ok (.ireturn, 1) := by decide +kernel
theorem dX11_count_105 : decode cX11_count 105 = .ok (.aload_n 0, 1) := by decide +kernel
theorem dX11_count_106 : decode cX11_count 106 = .ok (.getfield 21, 3) := by decide +kernel
theorem dX11_count_109 : decode cX11_count 109 = .ok (.getfield 100, 3) := by decide +kernel
theorem dX11_count_112 : decode cX11_count 112 = .ok (.getfield 104, 3) := by decide +kernel
theorem dX11_count_115 : decode cX11_count 115 = .ok (.ireturn, 1) := by decide +kernel
theorem dX11_count_116 : decode cX11_count 116 = .ok (.aload_n 0, 1) := by decide +kernel
theorem dX11_count_117 : decode cX11_count 117 = .ok (.getfield 21, 3) := by decide +kernel
theorem dX11_count_120 : decode cX11_count 120 = .ok (.getfield 190, 3) := by decide +kernel
theorem dX11_count_123 : decode cX11_count 123 = .ok (.getfield 194, 3) := by decide +kernel
theorem dX11_count_126 : decode cX11_count 126 = .ok (.ireturn, 1) := by decide +kernel
theorem dX11_count_127 : decode cX11_count 127 = .ok (.aload_n 0, 1) := by decide +kernel
theorem dX11_count_128 : decode cX11_count 128 = .ok (.getfield 21, 3) := by decide +kernel
theorem dX11_count_131 : decode cX11_count 131 = .ok (.getfield 190, 3) := by decide +kernel
theorem dX11_count_134 : decode cX11_count 134 = .ok (.iload_n 1, 1) := by decide +kernel
theorem dX11_count_135 : decode cX11_count 135 = .ok (.iconst 5, 1) := by decide +kernel
theorem dX11_count_136 : decode cX11_count 136 = .ok (.isub, 1) := by decide +kernel
theorem dX11_count_137 : decode cX11_count 137 = .ok (.invokevirtual 255, 3) := by decide +kernel
theorem dX11_count_140 : decode cX11_count 140 = .ok (.invokestatic 302, 3) := by decide +kernel
theorem dX11_count_143 : decode cX11_count 143 = .ok (.ireturn, 1) := by decide +kernel
theorem dX11_count_144 : decode cX11_count 144 = .ok (.aload_n 0, 1) := by decide +kernel
theorem dX11_count_145 : decode cX11_count 145 = .ok (.getfield 21, 3) := by decide +kernel
theorem dX11_count_148 : decode cX11_count 148 = .ok (.getfield 226, 3) := by decide +kernel
theorem dX11_count_151 : decode cX11_count 151 = .ok (.ireturn, 1) := by decide +kernel
theorem dX11_count_152 : decode cX11_count 152 = .ok (.aload_n 0, 1) := by decide +kernel
theorem dX11_count_153 : decode cX11_count 153 = .ok (.getfield 21, 3) := by decide +kernel
theorem dX11_count_156 : decode cX11_count 156 = .ok (.getfield 138, 3) := by decide +kernel
theorem dX11_count_159 : decode cX11_count 159 = .ok (.ireturn, 1) := by decide +kernel
theorem dX11_count_160 : decode cX11_count 160 = .ok (.aload_n 0, 1) := by decide +kernel
theorem dX11_count_161 : decode cX11_count 161 = .ok (.getfield 41, 3) := by decide +kernel
theorem dX11_count_164 : decode cX11_count 164 = .ok (.getfield 222, 3) := by decide +kernel
theorem dX11_count_167 : decode cX11_count 167 = .ok (.ireturn, 1) := by decide +kernel
theorem dX11_count_168 : decode cX11_count 168 = .ok (.aload_n 0, 1) := by decide +kernel
theorem dX11_count_169 : decode cX11_count 169 = .ok (.getfield 21, 3) := by decide +kernel
theorem dX11_count_172 : decode cX11_count 172 = .ok (.getfield 62, 3) := by decide +kernel
theorem dX11_count_175 : decode cX11_count 175 = .ok (.invokevirtual 307, 3) := by decide +kernel
theorem dX11_count_178 : decode cX11_count 178 = .ok (.ireturn, 1) := by decide +kernel
theorem dX11_count_179 : decode cX11_count 179 = .ok (.aload_n 0, 1) := by decide +kernel
theorem dX11_count_180 : decode cX11_count 180 = .ok (.getfield 21, 3) := by decide +kernel
theorem dX11_count_183 : decode cX11_count 183 = .ok (.getfield 153, 3) := by decide +kernel
theorem dX11_count_186 : decode cX11_count 186 = .ok (.getfield 310, 3) := by decide +kernel
theorem dX11_count_189 : decode cX11_count 189 = .ok (.ireturn, 1) := by decide +kernel
theorem dX11_count_190 : decode cX11_count 190 = .ok (.aload_n 0, 1) := by decide +kernel
theorem dX11_count_191 : decode cX11_count 191 = .ok (.ldc 57, 2) := by decide +kernel
theorem dX11_count_193 : decode cX11_count 193 = .ok (.invokevirtual 58, 3) := by decide +kernel
theorem dX11_count_196 : decode cX11_count 196 = .ok (.ireturn, 1) := by decide +kernel
theorem dX11_status_0 : decode cX11_status 0 = .ok (.iload_n 1, 1) := by decide +kernel
theorem dX11_status_1 : decode cX11_status 1 = .ok (.iconst (-1), 1) := by decide +kernel
theorem dX11_status_2 : decode cX11_status 2 = .ok (.if_icmp .ne 30, 3) := by decide +kernel
theorem dX11_status_5 : decode cX11_status 5 = .ok (.iconst 0, 1) := by decide +kernel
theorem dX11_status_6 : decode cX11_status 6 = .ok (.istore_n 2, 1) := by decide +kernel
theorem dX11_status_7 : decode cX11_status 7 = .ok (.iconst 0, 1) := by decide +kernel
theorem dX11_status_8 : decode cX11_status 8 = .ok (.istore_n 3, 1) := by decide +kernel
theorem dX11_status_9 : decode cX11_status 9 = .ok (.iload_n 3, 1) := by decide +kernel
theorem dX11_status_10 : decode cX11_status 10 = .ok (.bipush 7, 2) := by decide +kernel
theorem dX11_status_12 : decode cX11_status 12 = .ok (.if_icmp .ge 18, 3) := by decide +kernel
theorem dX11_status_15 : decode cX11_status 15 = .ok (.iload_n 2, 1) := by decide +kernel
theorem dX11_status_16 : decode cX11_status 16 = .ok (.aload_n 0, 1) := by decide +kernel
theorem dX11_status_17 : decode cX11_status 17 = .ok (.getfield 45, 3) := by decide +kernel
theorem dX11_status_20 : decode cX11_status 20 = .ok (.iload_n 3, 1) := by decide +kernel
theorem dX11_status_21 : decode cX11_status 21 = .ok (.iaload, 1) := by decide +kernel
theorem dX11_status_22 : decode cX11_status 22 = .ok (.iadd, 1) := by decide +kernel
theorem dX11_status_23 : decode cX11_status 23 = .ok (.istore_n 2, 1) := by decide +kernel
theorem dX11_status_24 : decode cX11_status 24 = .ok (.iinc 3 1, 3) := by decide +kernel
theorem dX11_status_27 : decode cX11_status 27 = .ok (.goto (-18), 3) := by decide +kernel
theorem dX11_status_30 : decode cX11_status 30 = .ok (.iload_n 2, 1) := by decide +kernel
theorem dX11_status_31 : decode cX11_status 31 = .ok (.ireturn, 1) := by decide +kernel
theorem dX11_status_32 : decode cX11_status 32 = .ok (.iload_n 1, 1) := by decide +kernel
theorem dX11_status_33 : decode cX11_status 33 = .ok (.iconst 0, 1) := by decide +kernel
theorem dX11_status_34 : decode cX11_status 34 = .ok (.bipush 6, 2) := by decide +kernel
theorem dX11_status_36 : decode cX11_status 36 = .ok (.invokestatic 53, 3) := by decide +kernel
theorem dX11_status_39 : decode cX11_status 39 = .ok (.ifCond .ne 10, 3) := by decide +kernel
theorem dX11_status_42 : decode cX11_status 42 = .ok (.aload_n 0, 1) := by decide +kernel
theorem dX11_status_43 : decode cX11_status 43 = .ok (.ldc 57, 2) := by decide +kernel
theorem dX11_status_45 : decode cX11_status 45 = .ok (.invokevirtual 58, 3) := by decide +kernel
theorem dX11_status_48 : decode cX11_status 48 = .ok (.ireturn, 1) := by decide +kernel
theorem dX11_status_49 : decode cX11_status 49 = .ok (.aload_n 0, 1) := by decide +kernel
theorem dX11_status_50 : decode cX11_status 50 = .ok (.getfield 45, 3) := by decide +kernel
theorem dX11_status_53 : decode cX11_status 53 = .ok (.iload_n 1, 1) := by decide +kernel
theorem dX11_status_54 : decode cX11_status 54 = .ok (.iaload, 1) := by decide +kernel
theorem dX11_status_55 : decode cX11_status 55 = .ok (.ireturn, 1) := by decide +kernel
theorem dX11_found_0 : decode cX11_found 0 = .ok (.ldc 57, 2) := by decide +kernel
theorem dX11_found_2 : decode cX11_found 2 = .ok (.iload_n 1, 1) := by decide +kernel
theorem dX11_found_3 : decode cX11_found 3 = .ok (.isub, 1) := by decide +kernel
theorem dX11_found_4 : decode cX11_found 4 = .ok (.istore_n 2, 1) := by decide +kernel
theorem dX11_found_5 : decode cX11_found 5 = .ok (.iload_n 2, 1) := by decide +kernel
theorem dX11_found_6 : decode cX11_found 6 = .ok (.iconst 0, 1) := by decide +kernel
theorem dX11_found_7 : decode cX11_found 7 = .ok (.bipush 6, 2) := by decide +kernel
theorem dX11_found_9 : decode cX11_found 9 = .ok (.invokestatic 53, 3) := by decide +kernel
theorem dX11_found_12 : decode cX11_found 12 = .ok (.ifCond .eq 13, 3) := by decide +kernel
theorem dX11_found_15 : decode cX11_found 15 = .ok (.aload_n 0, 1) := by decide +kernel
theorem dX11_found_16 : decode cX11_found 16 = .ok (.getfield 45, 3) := by decide +kernel
theorem dX11_found_19 : decode cX11_found 19 = .ok (.iload_n 2, 1) := by decide +kernel
theorem dX11_found_20 : decode cX11_found 20 = .ok (.dup2, 1) := by decide +kernel
theorem dX11_found_21 : decode cX11_found 21 = .ok (.iaload, 1) := by decide +kernel
theorem dX11_found_22 : decode cX11_found 22 = .ok (.iconst 1, 1) := by decide +kernel
theorem dX11_found_23 : decode cX11_found 23 = .ok (.iadd, 1) := by decide +kernel
theorem dX11_found_24 : decode cX11_found 24 = .ok (.iastore, 1) := by decide +kernel
theorem dX11_found_25 : decode cX11_found 25 = .ok (.iload_n 1, 1) := by decide +kernel
theorem dX11_found_26 : decode cX11_found 26 = .ok (.ireturn, 1) := by decide +kernel
theorem dX11_mayBeAlong_0 : decode cX11_mayBeAlong 0 = .ok (.iload_n 1, 1) := by decide +kernel
theorem dX11_mayBeAlong_1 : decode cX11_mayBeAlong 1 = .ok (.iconst (-1), 1) := by decide +kernel
theorem dX11_mayBeAlong_2 : decode cX11_mayBeAlong 2 = .ok (.if_icmp .eq 22, 3) := by decide +kernel
theorem dX11_mayBeAlong_5 : decode cX11_mayBeAlong 5 = .ok (.aload_n 0, 1) := by decide +kernel
theorem dX11_mayBeAlong_6 : decode cX11_mayBeAlong 6 = .ok (.getfield 21, 3) := by decide +kernel
theorem dX11_mayBeAlong_9 : decode cX11_mayBeAlong 9 = .ok (.getfield 62, 3) := by decide +kernel
theorem dX11_mayBeAlong_12 : decode cX11_mayBeAlong 12 = .ok (.iload_n 1, 1) := by decide +kernel
theorem dX11_mayBeAlong_13 : decode cX11_mayBeAlong 13 = .ok (.invokevirtual 115, 3) := by decide +kernel
theorem dX11_mayBeAlong_16 : decode cX11_mayBeAlong 16 = .ok (.ifCond .eq 12, 3) := by decide +kernel
theorem dX11_mayBeAlong_19 : decode cX11_mayBeAlong 19 = .ok (.iload_n 1, 1) := by decide +kernel
theorem dX11_mayBeAlong_20 : decode cX11_mayBeAlong 20 = .ok (.iload_n 2, 1) := by decide +kernel
theorem dX11_mayBeAlong_21 : decode cX11_mayBeAlong 21 = .ok (.if_icmp .eq 7, 3) := by decide +kernel
theorem dX11_mayBeAlong_24 : decode cX11_mayBeAlong 24 = .ok (.iconst 1, 1) := by decide +kernel
theorem dX11_mayBeAlong_25 : decode cX11_mayBeAlong 25 = .ok (.goto 4, 3) := by decide +kernel
theorem dX11_mayBeAlong_28 : decode cX11_mayBeAlong 28 = .ok (.iconst 0, 1) := by decide +kernel
theorem dX11_mayBeAlong_29 : decode cX11_mayBeAlong 29 = .ok (.ireturn, 1) := by decide +kernel
theorem dX11_isHow_0 : decode cX11_isHow 0 = .ok (.iload_n 0, 1) := by decide +kernel
theorem dX11_isHow_1 : decode cX11_isHow 1 = .ok (.ifCond .lt 32, 3) := by decide +kernel
theorem dX11_isHow_4 : decode cX11_isHow 4 = .ok (.iload_n 0, 1) := by decide +kernel
theorem dX11_isHow_5 : decode cX11_isHow 5 = .ok (.bipush 10, 2) := by decide +kernel
theorem dX11_isHow_7 : decode cX11_isHow 7 = .ok (.irem, 1) := by decide +kernel
theorem dX11_isHow_8 : decode cX11_isHow 8 = .ok (.iconst 1, 1) := by decide +kernel
theorem dX11_isHow_9 : decode cX11_isHow 9 = .ok (.iconst 5, 1) := by decide +kernel
theorem dX11_isHow_10 : decode cX11_isHow 10 = .ok (.invokestatic 53, 3) := by decide +kernel
theorem dX11_isHow_13 : decode cX11_isHow 13 = .ok (.ifCond .eq 20, 3) := by decide +kernel
theorem dX11_isHow_16 : decode cX11_isHow 16 = .ok (.iload_n 0, 1) := by decide +kernel
theorem dX11_isHow_17 : decode cX11_isHow 17 = .ok (.bipush 10, 2) := by decide +kernel
theorem dX11_isHow_19 : decode cX11_isHow 19 = .ok (.idiv, 1) := by decide +kernel
theorem dX11_isHow_20 : decode cX11_isHow 20 = .ok (.iconst 1, 1) := by decide +kernel
theorem dX11_isHow_21 : decode cX11_isHow 21 = .ok (.bipush 30, 2) := by decide +kernel
theorem dX11_isHow_23 : decode cX11_isHow 23 = .ok (.invokestatic 53, 3) := by decide +kernel
theorem dX11_isHow_26 : decode cX11_isHow 26 = .ok (.ifCond .eq 7, 3) := by decide +kernel
theorem dX11_isHow_29 : decode cX11_isHow 29 = .ok (.iconst 1, 1) := by decide +kernel
theorem dX11_isHow_30 : decode cX11_isHow 30 = .ok (.goto 4, 3) := by decide +kernel
theorem dX11_isHow_33 : decode cX11_isHow 33 = .ok (.iconst 0, 1) := by decide +kernel
theorem dX11_isHow_34 : decode cX11_isHow 34 = .ok (.ireturn, 1) := by decide +kernel
theorem dX11_within_0 : decode cX11_within 0 = .ok (.iload_n 0, 1) := by decide +kernel
theorem dX11_within_1 : decode cX11_within 1 = .ok (.iload_n 1, 1) := by decide +kernel
theorem dX11_within_2 : decode cX11_within 2 = .ok (.if_icmp .lt 12, 3) := by decide +kernel
theorem dX11_within_5 : decode cX11_within 5 = .ok (.iload_n 0, 1) := by decide +kernel
theorem dX11_within_6 : decode cX11_within 6 = .ok (.iload_n 2, 1) := by decide +kernel
theorem dX11_within_7 : decode cX11_within 7 = .ok (.if_icmp .gt 7, 3) := by decide +kernel
theorem dX11_within_10 : decode cX11_within 10 = .ok (.iconst 1, 1) := by decide +kernel
theorem dX11_within_11 : decode cX11_within 11 = .ok (.goto 4, 3) := by decide +kernel
theorem dX11_within_14 : decode cX11_within 14 = .ok (.iconst 0, 1) := by decide +kernel
theorem dX11_within_15 : decode cX11_within 15 = .ok (.ireturn, 1) := by decide +kernel
theorem dX11_withBit_0 : decode cX11_withBit 0 = .ok (.iload_n 2, 1) := by decide +kernel
theorem dX11_withBit_1 : decode cX11_withBit 1 = .ok (.ifCond .eq 11, 3) := by decide +kernel
theorem dX11_withBit_4 : decode cX11_withBit 4 = .ok (.iload_n 0, 1) := by decide +kernel
theorem dX11_withBit_5 : decode cX11_withBit 5 = .ok (.iconst 1, 1) := by decide +kernel
theorem dX11_withBit_6 : decode cX11_withBit 6 = .ok (.iload_n 1, 1) := by decide +kernel
theorem dX11_withBit_7 : decode cX11_withBit 7 = .ok (.ishl, 1) := by decide +kernel
theorem dX11_withBit_8 : decode cX11_withBit 8 = .ok (.ior, 1) := by decide +kernel
theorem dX11_withBit_9 : decode cX11_withBit 9 = .ok (.goto 10, 3) := by decide +kernel
theorem dX11_withBit_12 : decode cX11_withBit 12 = .ok (.iload_n 0, 1) := by decide +kernel
theorem dX11_withBit_13 : decode cX11_withBit 13 = .ok (.iconst 1, 1) := by decide +kernel
theorem dX11_withBit_14 : decode cX11_withBit 14 = .ok (.iload_n 1, 1) := by decide +kernel
theorem dX11_withBit_15 : decode cX11_withBit 15 = .ok (.ishl, 1) := by decide +kernel
theorem dX11_withBit_16 : decode cX11_withBit 16 = .ok (.iconst (-1), 1) := by decide +kernel
theorem dX11_withBit_17 : decode cX11_withBit 17 = .ok (.ixor, 1) := by decide +kernel
theorem dX11_withBit_18 : decode cX11_withBit 18 = .ok (.iand, 1) := by decide +kernel
theorem dX11_withBit_19 : decode cX11_withBit 19 = .ok (.ireturn, 1) := by decide +kernel
theorem dX11_hasBit_0 : decode cX11_hasBit 0 = .ok (.iload_n 0, 1) := by decide +kernel
theorem dX11_hasBit_1 : decode cX11_hasBit 1 = .ok (.iload_n 1, 1) := by decide +kernel
theorem dX11_hasBit_2 : decode cX11_hasBit 2 = .ok (.ishr, 1) := by decide +kernel
theorem dX11_hasBit_3 : decode cX11_hasBit 3 = .ok (.iconst 1, 1) := by decide +kernel
theorem dX11_hasBit_4 : decode cX11_hasBit 4 = .ok (.iand, 1) := by decide +kernel
theorem dX11_hasBit_5 : decode cX11_hasBit 5 = .ok (.ifCond .eq 7, 3) := by decide +kernel
theorem dX11_hasBit_8 : decode cX11_hasBit 8 = .ok (.iconst 1, 1) := by decide +kernel
theorem dX11_hasBit_9 : decode cX11_hasBit 9 = .ok (.goto 4, 3) := by decide +kernel
theorem dX11_hasBit_12 : decode cX11_hasBit 12 = .ok (.iconst 0, 1) := by decide +kernel
theorem dX11_hasBit_13 : decode cX11_hasBit 13 = .ok (.ireturn, 1) := by decide +kernel
theorem dJ6_bitCount_0f7a4_0 : decode cJ6_bitCount_0f7a4 0 = .ok (.iload_n 0, 1) := by decide +kernel
theorem dJ6_bitCount_0f7a4_1 : decode cJ6_bitCount_0f7a4 1 = .ok (.iload_n 0, 1) := by decide +kernel
theorem dJ6_bitCount_0f7a4_2 : decode cJ6_bitCount_0f7a4 2 = .ok (.iconst 1, 1) := by decide +kernel
theorem dJ6_bitCount_0f7a4_3 : decode cJ6_bitCount_0f7a4 3 = .ok (.iushr, 1) := by decide +kernel
theorem dJ6_bitCount_0f7a4_4 : decode cJ6_bitCount_0f7a4 4 = .ok (.ldc_w 265, 3) := by decide +kernel
theorem dJ6_bitCount_0f7a4_7 : decode cJ6_bitCount_0f7a4 7 = .ok (.iand, 1) := by decide +kernel
theorem dJ6_bitCount_0f7a4_8 : decode cJ6_bitCount_0f7a4 8 = .ok (.isub, 1) := by decide +kernel
theorem dJ6_bitCount_0f7a4_9 : decode cJ6_bitCount_0f7a4 9 = .ok (.istore_n 0, 1) := by decide +kernel
theorem dJ6_bitCount_0f7a4_10 : decode cJ6_bitCount_0f7a4 10 = .ok (.iload_n 0, 1) := by decide +kernel
theorem dJ6_bitCount_0f7a4_11 : decode cJ6_bitCount_0f7a4 11 = .ok (.ldc_w 266, 3) := by decide +kernel
theorem dJ6_bitCount_0f7a4_14 : decode cJ6_bitCount_0f7a4 14 = .ok (.iand, 1) := by decide +kernel
theorem dJ6_bitCount_0f7a4_15 : decode cJ6_bitCount_0f7a4 15 = .ok (.iload_n 0, 1) := by decide +kernel
theorem dJ6_bitCount_0f7a4_16 : decode cJ6_bitCount_0f7a4 16 = .ok (.iconst 2, 1) := by decide +kernel
theorem dJ6_bitCount_0f7a4_17 : decode cJ6_bitCount_0f7a4 17 = .ok (.iushr, 1) := by decide +kernel
theorem dJ6_bitCount_0f7a4_18 : decode cJ6_bitCount_0f7a4 18 = .ok (.ldc_w 266, 3) := by decide +kernel
theorem dJ6_bitCount_0f7a4_21 : decode cJ6_bitCount_0f7a4 21 = .ok (.iand, 1) := by decide +kernel
theorem dJ6_bitCount_0f7a4_22 : decode cJ6_bitCount_0f7a4 22 = .ok (.iadd, 1) := by decide +kernel
theorem dJ6_bitCount_0f7a4_23 : decode cJ6_bitCount_0f7a4 23 = .ok (.istore_n 0, 1) := by decide +kernel
theorem dJ6_bitCount_0f7a4_24 : decode cJ6_bitCount_0f7a4 24 = .ok (.iload_n 0, 1) := by decide +kernel
theorem dJ6_bitCount_0f7a4_25 : decode cJ6_bitCount_0f7a4 25 = .ok (.iload_n 0, 1) := by decide +kernel
theorem dJ6_bitCount_0f7a4_26 : decode cJ6_bitCount_0f7a4 26 = .ok (.iconst 4, 1) := by decide +kernel
theorem dJ6_bitCount_0f7a4_27 : decode cJ6_bitCount_0f7a4 27 = .ok (.iushr, 1) := by decide +kernel
theorem dJ6_bitCount_0f7a4_28 : decode cJ6_bitCount_0f7a4 28 = .ok (.iadd, 1) := by decide +kernel
theorem dJ6_bitCount_0f7a4_29 : decode cJ6_bitCount_0f7a4 29 = .ok (.ldc_w 267, 3) := by decide +kernel
theorem dJ6_bitCount_0f7a4_32 : decode cJ6_bitCount_0f7a4 32 = .ok (.iand, 1) := by decide +kernel
theorem dJ6_bitCount_0f7a4_33 : decode cJ6_bitCount_0f7a4 33 = .ok (.istore_n 0, 1) := by decide +kernel
theorem dJ6_bitCount_0f7a4_34 : decode cJ6_bitCount_0f7a4 34 = .ok (.iload_n 0, 1) := by decide +kernel
theorem dJ6_bitCount_0f7a4_35 : decode cJ6_bitCount_0f7a4 35 = .ok (.iload_n 0, 1) := by decide +kernel
theorem dJ6_bitCount_0f7a4_36 : decode cJ6_bitCount_0f7a4 36 = .ok (.bipush 8, 2) := by decide +kernel
theorem dJ6_bitCount_0f7a4_38 : decode cJ6_bitCount_0f7a4 38 = .ok (.iushr, 1) := by decide +kernel
theorem dJ6_bitCount_0f7a4_39 : decode cJ6_bitCount_0f7a4 39 = .ok (.iadd, 1) := by decide +kernel
theorem dJ6_bitCount_0f7a4_40 : decode cJ6_bitCount_0f7a4 40 = .ok (.istore_n 0, 1) := by decide +kernel
theorem dJ6_bitCount_0f7a4_41 : decode cJ6_bitCount_0f7a4 41 = .ok (.iload_n 0, 1) := by decide +kernel
theorem dJ6_bitCount_0f7a4_42 : decode cJ6_bitCount_0f7a4 42 = .ok (.iload_n 0, 1) := by decide +kernel
theorem dJ6_bitCount_0f7a4_43 : decode cJ6_bitCount_0f7a4 43 = .ok (.bipush 16, 2) := by decide +kernel
theorem dJ6_bitCount_0f7a4_45 : decode cJ6_bitCount_0f7a4 45 = .ok (.iushr, 1) := by decide +kernel
theorem dJ6_bitCount_0f7a4_46 : decode cJ6_bitCount_0f7a4 46 = .ok (.iadd, 1) := by decide +kernel
theorem dJ6_bitCount_0f7a4_47 : decode cJ6_bitCount_0f7a4 47 = .ok (.istore_n 0, 1) := by decide +kernel
theorem dJ6_bitCount_0f7a4_48 : decode cJ6_bitCount_0f7a4 48 = .ok (.iload_n 0, 1) := by decide +kernel
theorem dJ6_bitCount_0f7a4_49 : decode cJ6_bitCount_0f7a4 49 = .ok (.bipush 63, 2) := by decide +kernel
theorem dJ6_bitCount_0f7a4_51 : decode cJ6_bitCount_0f7a4 51 = .ok (.iand, 1) := by decide +kernel
theorem dJ6_bitCount_0f7a4_52 : decode cJ6_bitCount_0f7a4 52 = .ok (.ireturn, 1) := by decide +kernel
theorem dJ9_max_7cf53_0 : decode cJ9_max_7cf53 0 = .ok (.iload_n 0, 1) := by decide +kernel
theorem dJ9_max_7cf53_1 : decode cJ9_max_7cf53 1 = .ok (.iload_n 1, 1) := by decide +kernel
theorem dJ9_max_7cf53_2 : decode cJ9_max_7cf53 2 = .ok (.if_icmp .lt 7, 3) := by decide +kernel
theorem dJ9_max_7cf53_5 : decode cJ9_max_7cf53 5 = .ok (.iload_n 0, 1) := by decide +kernel
theorem dJ9_max_7cf53_6 : decode cJ9_max_7cf53 6 = .ok (.goto 4, 3) := by decide +kernel
theorem dJ9_max_7cf53_9 : decode cJ9_max_7cf53 9 = .ok (.iload_n 1, 1) := by decide +kernel
theorem dJ9_max_7cf53_10 : decode cJ9_max_7cf53 10 = .ok (.ireturn, 1) := by decide +kernel
theorem dJ9_min_7cf53_0 : decode cJ9_min_7cf53 0 = .ok (.iload_n 0, 1) := by decide +kernel
theorem dJ9_min_7cf53_1 : decode cJ9_min_7cf53 1 = .ok (.iload_n 1, 1) := by decide +kernel
theorem dJ9_min_7cf53_2 : decode cJ9_min_7cf53 2 = .ok (.if_icmp .gt 7, 3) := by decide +kernel
theorem dJ9_min_7cf53_5 : decode cJ9_min_7cf53 5 = .ok (.iload_n 0, 1) := by decide +kernel
theorem dJ9_min_7cf53_6 : decode cJ9_min_7cf53 6 = .ok (.goto 4, 3) := by decide +kernel
theorem dJ9_min_7cf53_9 : decode cJ9_min_7cf53 9 = .ok (.iload_n 1, 1) := by decide +kernel
theorem dJ9_min_7cf53_10 : decode cJ9_min_7cf53 10 = .ok (.ireturn, 1) := by decide +kernel
theorem dJ0_length_8abf5_0 : decode cJ0_length_8abf5 0 = .ok (.aload_n 0, 1) := by decide +kernel
theorem dJ0_length_8abf5_1 : decode cJ0_length_8abf5 1 = .ok (.getfield 9, 3) := by decide +kernel
theorem dJ0_length_8abf5_4 : decode cJ0_length_8abf5 4 = .ok (.arraylength, 1) := by decide +kernel
theorem dJ0_length_8abf5_5 : decode cJ0_length_8abf5 5 = .ok (.aload_n 0, 1) := by decide +kernel
theorem dJ0_length_8abf5_6 : decode cJ0_length_8abf5 6 = .ok (.invokevirtual 335, 3) := by decide +kernel
theorem dJ0_length_8abf5_9 : decode cJ0_length_8abf5 9 = .ok (.ishr, 1) := by decide +kernel
theorem dJ0_length_8abf5_10 : decode cJ0_length_8abf5 10 = .ok (.ireturn, 1) := by decide +kernel
theorem dJ0_charAt_5068e_0 : decode cJ0_charAt_5068e 0 = .ok (.aload_n 0, 1) := by decide +kernel
theorem dJ0_charAt_5068e_1 : decode cJ0_charAt_5068e 1 = .ok (.invokevirtual 492, 3) := by decide +kernel
theorem dJ0_charAt_5068e_4 : decode cJ0_charAt_5068e 4 = .ok (.ifCond .eq 12, 3) := by decide +kernel
theorem dJ0_charAt_5068e_7 : decode cJ0_charAt_5068e 7 = .ok (.aload_n 0, 1) := by decide +kernel
theorem dJ0_charAt_5068e_8 : decode cJ0_charAt_5068e 8 = .ok (.getfield 9, 3) := by decide +kernel
theorem dJ0_charAt_5068e_11 : decode cJ0_charAt_5068e 11 = .ok (.iload_n 1, 1) := by decide +kernel
theorem dJ0_charAt_5068e_12 : decode cJ0_charAt_5068e 12 = .ok (.invokestatic 495, 3) := by decide +kernel
theorem dJ0_charAt_5068e_15 : decode cJ0_charAt_5068e 15 = .ok (.ireturn, 1) := by decide +kernel
theorem dJ0_charAt_5068e_16 : decode cJ0_charAt_5068e 16 = .ok (.aload_n 0, 1) := by decide +kernel
theorem dJ0_charAt_5068e_17 : decode cJ0_charAt_5068e 17 = .ok (.getfield 9, 3) := by decide +kernel
theorem dJ0_charAt_5068e_20 : decode cJ0_charAt_5068e 20 = .ok (.iload_n 1, 1) := by decide +kernel
theorem dJ0_charAt_5068e_21 : decode cJ0_charAt_5068e 21 = .ok (.invokestatic 498, 3) := by decide +kernel
theorem dJ0_charAt_5068e_24 : decode cJ0_charAt_5068e 24 = .ok (.ireturn, 1) := by decide +kernel
theorem dJ0_indexOf_0f7a4_0 : decode cJ0_indexOf_0f7a4 0 = .ok (.aload_n 0, 1) := by decide +kernel
theorem dJ0_indexOf_0f7a4_1 : decode cJ0_indexOf_0f7a4 1 = .ok (.iload_n 1, 1) := by decide +kernel
theorem dJ0_indexOf_0f7a4_2 : decode cJ0_indexOf_0f7a4 2 = .ok (.iconst 0, 1) := by decide +kernel
theorem dJ0_indexOf_0f7a4_3 : decode cJ0_indexOf_0f7a4 3 = .ok (.invokevirtual 633, 3) := by decide +kernel
theorem dJ0_indexOf_0f7a4_6 : decode cJ0_indexOf_0f7a4 6 = .ok (.ireturn, 1) := by decide +kernel
theorem dJ0_indexOf_7cf53_0 : decode cJ0_indexOf_7cf53 0 = .ok (.aload_n 0, 1) := by decide +kernel
theorem dJ0_indexOf_7cf53_1 : decode cJ0_indexOf_7cf53 1 = .ok (.invokevirtual 492, 3) := by decide +kernel
theorem dJ0_indexOf_7cf53_4 : decode cJ0_indexOf_7cf53 4 = .ok (.ifCond .eq 19, 3) := by decide +kernel
theorem dJ0_indexOf_7cf53_7 : decode cJ0_indexOf_7cf53 7 = .ok (.aload_n 0, 1) := by decide +kernel
theorem dJ0_indexOf_7cf53_8 : decode cJ0_indexOf_7cf53 8 = .ok (.getfield 9, 3) := by decide +kernel
theorem dJ0_indexOf_7cf53_11 : decode cJ0_indexOf_7cf53 11 = .ok (.iload_n 1, 1) := by decide +kernel
theorem dJ0_indexOf_7cf53_12 : decode cJ0_indexOf_7cf53 12 = .ok (.iload_n 2, 1) := by decide +kernel
theorem dJ0_indexOf_7cf53_13 : decode cJ0_indexOf_7cf53 13 = .ok (.aload_n 0, 1) := by decide +kernel
theorem dJ0_indexOf_7cf53_14 : decode cJ0_indexOf_7cf53 14 = .ok (.invokevirtual 505, 3) := by decide +kernel
theorem dJ0_indexOf_7cf53_17 : decode cJ0_indexOf_7cf53 17 = .ok (.invokestatic 637, 3) := by decide +kernel
theorem dJ0_indexOf_7cf53_20 : decode cJ0_indexOf_7cf53 20 = .ok (.goto 16, 3) := by decide +kernel
theorem dJ0_indexOf_7cf53_23 : decode cJ0_indexOf_7cf53 23 = .ok (.aload_n 0, 1) := by decide +kernel
theorem dJ0_indexOf_7cf53_24 : decode cJ0_indexOf_7cf53 24 = .ok (.getfield 9, 3) := by decide +kernel
theorem dJ0_indexOf_7cf53_27 : decode cJ0_indexOf_7cf53 27 = .ok (.iload_n 1, 1) := by decide +kernel
theorem dJ0_indexOf_7cf53_28 : decode cJ0_indexOf_7cf53 28 = .ok (.iload_n 2, 1) := by decide +kernel
theorem dJ0_indexOf_7cf53_29 : decode cJ0_indexOf_7cf53 29 = .ok (.aload_n 0, 1) := by decide +kernel
theorem dJ0_indexOf_7cf53_30 : decode cJ0_indexOf_7cf53 30 = .ok (.invokevirtual 505, 3) := by decide +kernel
theorem dJ0_indexOf_7cf53_33 : decode cJ0_indexOf_7cf53 33 = .ok (.invokestatic 640, 3) := by decide +kernel
theorem dJ0_indexOf_7cf53_36 : decode cJ0_indexOf_7cf53 36 = .ok (.ireturn, 1) := by decide +kernel
theorem dJ0_coder_7d493_0 : decode cJ0_coder_7d493 0 = .ok (.getstatic 38, 3) := by decide +kernel
theorem dJ0_coder_7d493_3 : decode cJ0_coder_7d493 3 = .ok (.ifCond .eq 10, 3) := by decide +kernel
theorem dJ0_coder_7d493_6 : decode cJ0_coder_7d493 6 = .ok (.aload_n 0, 1) := by decide +kernel
theorem dJ0_coder_7d493_7 : decode cJ0_coder_7d493 7 = .ok (.getfield 15, 3) := by decide +kernel
theorem dJ0_coder_7d493_10 : decode cJ0_coder_7d493 10 = .ok (.goto 4, 3) := by decide +kernel
theorem dJ0_coder_7d493_13 : decode cJ0_coder_7d493 13 = .ok (.iconst 1, 1) := by decide +kernel
theorem dJ0_coder_7d493_14 : decode cJ0_coder_7d493 14 = .ok (.ireturn, 1) := by decide +kernel
theorem dJ0_isLatin1_aae02_0 : decode cJ0_isLatin1_aae02 0 = .ok (.getstatic 38, 3) := by decide +kernel
theorem dJ0_isLatin1_aae02_3 : decode cJ0_isLatin1_aae02 3 = .ok (.ifCond .eq 14, 3) := by decide +kernel
theorem dJ0_isLatin1_aae02_6 : decode cJ0_isLatin1_aae02 6 = .ok (.aload_n 0, 1) := by decide +kernel
theorem dJ0_isLatin1_aae02_7 : decode cJ0_isLatin1_aae02 7 = .ok (.getfield 15, 3) := by decide +kernel
theorem dJ0_isLatin1_aae02_10 : decode cJ0_isLatin1_aae02 10 = .ok (.ifCond .ne 7, 3) := by decide +kernel
theorem dJ0_isLatin1_aae02_13 : decode cJ0_isLatin1_aae02 13 = .ok (.iconst 1, 1) := by decide +kernel
theorem dJ0_isLatin1_aae02_14 : decode cJ0_isLatin1_aae02 14 = .ok (.goto 4, 3) := by decide +kernel
theorem dJ0_isLatin1_aae02_17 : decode cJ0_isLatin1_aae02 17 = .ok (.iconst 0, 1) := by decide +kernel
theorem dJ0_isLatin1_aae02_18 : decode cJ0_isLatin1_aae02 18 = .ok (.ireturn, 1) := by decide +kernel
theorem dJ0_checkIndex_df160_0 : decode cJ0_checkIndex_df160 0 = .ok (.iload_n 0, 1) := by decide +kernel
theorem dJ0_checkIndex_df160_1 : decode cJ0_checkIndex_df160 1 = .ok (.iload_n 1, 1) := by decide +kernel
theorem dJ0_checkIndex_df160_2 : decode cJ0_checkIndex_df160 2 = .ok (.getstatic 1053, 3) := by decide +kernel
theorem dJ0_checkIndex_df160_5 : decode cJ0_checkIndex_df160 5 = .ok (.invokestatic 1059, 3) := by decide +kernel
theorem dJ0_checkIndex_df160_8 : decode cJ0_checkIndex_df160 8 = .ok (.pop, 1) := by decide +kernel
theorem dJ0_checkIndex_df160_9 : decode cJ0_checkIndex_df160 9 = .ok (.return_, 1) := by decide +kernel
theorem dJ0_checkBoundsBeginEnd_23922_0 : decode cJ0_checkBoundsBeginEnd_23922 0 = .ok (.iload_n 0, 1) := by decide +kernel
theorem dJ0_checkBoundsBeginEnd_23922_1 : decode cJ0_checkBoundsBeginEnd_23922 1 = .ok (.iload_n 1, 1) := by decide +kernel
theorem dJ0_checkBoundsBeginEnd_23922_2 : decode cJ0_checkBoundsBeginEnd_23922 2 = .ok (.iload_n 2, 1) := by decide +kernel
theorem dJ0_checkBoundsBeginEnd_23922_3 : decode cJ0_checkBoundsBeginEnd_23922 3 = .ok (.getstatic 1053, 3) := by decide +kernel
theorem dJ0_checkBoundsBeginEnd_23922_6 : decode cJ0_checkBoundsBeginEnd_23922 6 = .ok (.invokestatic 1062, 3) := by decide +kernel
theorem dJ0_checkBoundsBeginEnd_23922_9 : decode cJ0_checkBoundsBeginEnd_23922 9 = .ok (.pop, 1) := by decide +kernel
theorem dJ0_checkBoundsBeginEnd_23922_10 : decode cJ0_checkBoundsBeginEnd_23922 10 = .ok (.return_, 1) := by decide +kernel
theorem dJ1_charAt_3b067_0 : decode cJ1_charAt_3b067 0 = .ok (.iload_n 1, 1) := by decide +kernel
theorem dJ1_charAt_3b067_1 : decode cJ1_charAt_3b067 1 = .ok (.aload_n 0, 1) := by decide +kernel
theorem dJ1_charAt_3b067_2 : decode cJ1_charAt_3b067 2 = .ok (.arraylength, 1) := by decide +kernel
theorem dJ1_charAt_3b067_3 : decode cJ1_charAt_3b067 3 = .ok (.invokestatic 9, 3) := by decide +kernel
theorem dJ1_charAt_3b067_6 : decode cJ1_charAt_3b067 6 = .ok (.aload_n 0, 1) := by decide +kernel
theorem dJ1_charAt_3b067_7 : decode cJ1_charAt_3b067 7 = .ok (.iload_n 1, 1) := by decide +kernel
theorem dJ1_charAt_3b067_8 : decode cJ1_charAt_3b067 8 = .ok (.baload, 1) := by decide +kernel
theorem dJ1_charAt_3b067_9 : decode cJ1_charAt_3b067 9 = .ok (.sipush 255, 3) := by decide +kernel
theorem dJ1_charAt_3b067_12 : decode cJ1_charAt_3b067 12 = .ok (.iand, 1) := by decide +kernel
theorem dJ1_charAt_3b067_13 : decode cJ1_charAt_3b067 13 = .ok (.i2c, 1) := by decide +kernel
theorem dJ1_charAt_3b067_14 : decode cJ1_charAt_3b067 14 = .ok (.ireturn, 1) := by decide +kernel
theorem dJ1_canEncode_9a6ad_0 : decode cJ1_canEncode_9a6ad 0 = .ok (.iload_n 0, 1) := by decide +kernel
theorem dJ1_canEncode_9a6ad_1 : decode cJ1_canEncode_9a6ad 1 = .ok (.ifCond .lt 14, 3) := by decide +kernel
theorem dJ1_canEncode_9a6ad_4 : decode cJ1_canEncode_9a6ad 4 = .ok (.iload_n 0, 1) := by decide +kernel
theorem dJ1_canEncode_9a6ad_5 : decode cJ1_canEncode_9a6ad 5 = .ok (.sipush 255, 3) := by decide +kernel
theorem dJ1_canEncode_9a6ad_8 : decode cJ1_canEncode_9a6ad 8 = .ok (.if_icmp .gt 7, 3) := by decide +kernel
theorem dJ1_canEncode_9a6ad_11 : decode cJ1_canEncode_9a6ad 11 = .ok (.iconst 1, 1) := by decide +kernel
theorem dJ1_canEncode_9a6ad_12 : decode cJ1_canEncode_9a6ad 12 = .ok (.goto 4, 3) := by decide +kernel
theorem dJ1_canEncode_9a6ad_15 : decode cJ1_canEncode_9a6ad 15 = .ok (.iconst 0, 1) := by decide +kernel
theorem dJ1_canEncode_9a6ad_16 : decode cJ1_canEncode_9a6ad 16 = .ok (.ireturn, 1) := by decide +kernel
theorem dJ1_indexOf_4cfef_0 : decode cJ1_indexOf_4cfef 0 = .ok (.iload_n 1, 1) := by decide +kernel
theorem dJ1_indexOf_4cfef_1 : decode cJ1_indexOf_4cfef 1 = .ok (.invokestatic 88, 3) := by decide +kernel
theorem dJ1_indexOf_4cfef_4 : decode cJ1_indexOf_4cfef 4 = .ok (.ifCond .ne 5, 3) := by decide +kernel
theorem dJ1_indexOf_4cfef_7 : decode cJ1_indexOf_4cfef 7 = .ok (.iconst (-1), 1) := by decide +kernel
theorem dJ1_indexOf_4cfef_8 : decode cJ1_indexOf_4cfef 8 = .ok (.ireturn, 1) := by decide +kernel
theorem dJ1_indexOf_4cfef_9 : decode cJ1_indexOf_4cfef 9 = .ok (.iload_n 2, 1) := by decide +kernel
theorem dJ1_indexOf_4cfef_10 : decode cJ1_indexOf_4cfef 10 = .ok (.iconst 0, 1) := by decide +kernel
theorem dJ1_indexOf_4cfef_11 : decode cJ1_indexOf_4cfef 11 = .ok (.invokestatic 92, 3) := by decide +kernel
theorem dJ1_indexOf_4cfef_14 : decode cJ1_indexOf_4cfef 14 = .ok (.istore_n 2, 1) := by decide +kernel
theorem dJ1_indexOf_4cfef_15 : decode cJ1_indexOf_4cfef 15 = .ok (.iload_n 3, 1) := by decide +kernel
theorem dJ1_indexOf_4cfef_16 : decode cJ1_indexOf_4cfef 16 = .ok (.aload_n 0, 1) := by decide +kernel
theorem dJ1_indexOf_4cfef_17 : decode cJ1_indexOf_4cfef 17 = .ok (.arraylength, 1) := by decide +kernel
theorem dJ1_indexOf_4cfef_18 : decode cJ1_indexOf_4cfef 18 = .ok (.invokestatic 38, 3) := by decide +kernel
theorem dJ1_indexOf_4cfef_21 : decode cJ1_indexOf_4cfef 21 = .ok (.istore_n 3, 1) := by decide +kernel
theorem dJ1_indexOf_4cfef_22 : decode cJ1_indexOf_4cfef 22 = .ok (.iload_n 2, 1) := by decide +kernel
theorem dJ1_indexOf_4cfef_23 : decode cJ1_indexOf_4cfef 23 = .ok (.iload_n 3, 1) := by decide +kernel
theorem dJ1_indexOf_4cfef_24 : decode cJ1_indexOf_4cfef 24 = .ok (.if_icmp .lt 5, 3) := by decide +kernel
theorem dJ1_indexOf_4cfef_27 : decode cJ1_indexOf_4cfef 27 = .ok (.iconst (-1), 1) := by decide +kernel
theorem dJ1_indexOf_4cfef_28 : decode cJ1_indexOf_4cfef 28 = .ok (.ireturn, 1) := by decide +kernel
theorem dJ1_indexOf_4cfef_29 : decode cJ1_indexOf_4cfef 29 = .ok (.aload_n 0, 1) := by decide +kernel
theorem dJ1_indexOf_4cfef_30 : decode cJ1_indexOf_4cfef 30 = .ok (.iload_n 1, 1) := by decide +kernel
theorem dJ1_indexOf_4cfef_31 : decode cJ1_indexOf_4cfef 31 = .ok (.iload_n 2, 1) := by decide +kernel
theorem dJ1_indexOf_4cfef_32 : decode cJ1_indexOf_4cfef 32 = .ok (.iload_n 3, 1) := by decide +kernel
theorem dJ1_indexOf_4cfef_33 : decode cJ1_indexOf_4cfef 33 = .ok (.invokestatic 95, 3) := by decide +kernel
theorem dJ1_indexOf_4cfef_36 : decode cJ1_indexOf_4cfef 36 = .ok (.ireturn, 1) := by decide +kernel
theorem dJ1_indexOfChar_4cfef_0 : decode cJ1_indexOfChar_4cfef 0 = .ok (.iload_n 1, 1) := by decide +kernel
theorem dJ1_indexOfChar_4cfef_1 : decode cJ1_indexOfChar_4cfef 1 = .ok (.i2b, 1) := by decide +kernel
theorem dJ1_indexOfChar_4cfef_2 : decode cJ1_indexOfChar_4cfef 2 = .ok (.istore 4, 2) := by decide +kernel
theorem dJ1_indexOfChar_4cfef_4 : decode cJ1_indexOfChar_4cfef 4 = .ok (.iload_n 2, 1) := by decide +kernel
theorem dJ1_indexOfChar_4cfef_5 : decode cJ1_indexOfChar_4cfef 5 = .ok (.istore 5, 2) := by decide +kernel
theorem dJ1_indexOfChar_4cfef_7 : decode cJ1_indexOfChar_4cfef 7 = .ok (.iload 5, 2) := by decide +kernel
theorem dJ1_indexOfChar_4cfef_9 : decode cJ1_indexOfChar_4cfef 9 = .ok (.iload_n 3, 1) := by decide +kernel
theorem dJ1_indexOfChar_4cfef_10 : decode cJ1_indexOfChar_4cfef 10 = .ok (.if_icmp .ge 21, 3) := by decide +kernel
theorem dJ1_indexOfChar_4cfef_13 : decode cJ1_indexOfChar_4cfef 13 = .ok (.aload_n 0, 1) := by decide +kernel
theorem dJ1_indexOfChar_4cfef_14 : decode cJ1_indexOfChar_4cfef 14 = .ok (.iload 5, 2) := by decide +kernel
theorem dJ1_indexOfChar_4cfef_16 : decode cJ1_indexOfChar_4cfef 16 = .ok (.baload, 1) := by decide +kernel
theorem dJ1_indexOfChar_4cfef_17 : decode cJ1_indexOfChar_4cfef 17 = .ok (.iload 4, 2) := by decide +kernel
theorem dJ1_indexOfChar_4cfef_19 : decode cJ1_indexOfChar_4cfef 19 = .ok (.if_icmp .ne 6, 3) := by decide +kernel
theorem dJ1_indexOfChar_4cfef_22 : decode cJ1_indexOfChar_4cfef 22 = .ok (.iload 5, 2) := by decide +kernel
theorem dJ1_indexOfChar_4cfef_24 : decode cJ1_indexOfChar_4cfef 24 = .ok (.ireturn, 1) := by decide +kernel
theorem dJ1_indexOfChar_4cfef_25 : decode cJ1_indexOfChar_4cfef 25 = .ok (.iinc 5 1, 3) := by decide +kernel
theorem dJ1_indexOfChar_4cfef_28 : decode cJ1_indexOfChar_4cfef 28 = .ok (.goto (-21), 3) := by decide +kernel
theorem dJ1_indexOfChar_4cfef_31 : decode cJ1_indexOfChar_4cfef 31 = .ok (.iconst (-1), 1) := by decide +kernel
theorem dJ1_indexOfChar_4cfef_32 : decode cJ1_indexOfChar_4cfef 32 = .ok (.ireturn, 1) := by decide +kernel
theorem dJ3_checkIndex_8e157_0 : decode cJ3_checkIndex_8e157 0 = .ok (.iload_n 0, 1) := by decide +kernel
theorem dJ3_checkIndex_8e157_1 : decode cJ3_checkIndex_8e157 1 = .ok (.ifCond .lt 8, 3) := by decide +kernel
theorem dJ3_checkIndex_8e157_4 : decode cJ3_checkIndex_8e157 4 = .ok (.iload_n 0, 1) := by decide +kernel
theorem dJ3_checkIndex_8e157_5 : decode cJ3_checkIndex_8e157 5 = .ok (.iload_n 1, 1) := by decide +kernel
theorem dJ3_checkIndex_8e157_6 : decode cJ3_checkIndex_8e157 6 = .ok (.if_icmp .lt 10, 3) := by decide +kernel
theorem dJ3_checkIndex_8e157_9 : decode cJ3_checkIndex_8e157 9 = .ok (.aload_n 2, 1) := by decide +kernel
theorem dJ3_checkIndex_8e157_10 : decode cJ3_checkIndex_8e157 10 = .ok (.iload_n 0, 1) := by decide +kernel
theorem dJ3_checkIndex_8e157_11 : decode cJ3_checkIndex_8e157 11 = .ok (.iload_n 1, 1) := by decide +kernel
theorem dJ3_checkIndex_8e157_12 : decode cJ3_checkIndex_8e157 12 = .ok (.invokestatic 95, 3) := by decide +kernel
theorem dJ3_checkIndex_8e157_15 : decode cJ3_checkIndex_8e157 15 = .ok (.athrow, 1) := by decide +kernel
theorem dJ3_checkIndex_8e157_16 : decode cJ3_checkIndex_8e157 16 = .ok (.iload_n 0, 1) := by decide +kernel
theorem dJ3_checkIndex_8e157_17 : decode cJ3_checkIndex_8e157 17 = .ok (.ireturn, 1) := by decide +kernel
theorem dJ3_checkFromToIndex_8c36e_0 : decode cJ3_checkFromToIndex_8c36e 0 = .ok (.iload_n 0, 1) := by decide +kernel
theorem dJ3_checkFromToIndex_8c36e_1 : decode cJ3_checkFromToIndex_8c36e 1 = .ok (.ifCond .lt 13, 3) := by decide +kernel
theorem dJ3_checkFromToIndex_8c36e_4 : decode cJ3_checkFromToIndex_8c36e 4 = .ok (.iload_n 0, 1) := by decide +kernel
theorem dJ3_checkFromToIndex_8c36e_5 : decode cJ3_checkFromToIndex_8c36e 5 = .ok (.iload_n 1, 1) := by decide +kernel
theorem dJ3_checkFromToIndex_8c36e_6 : decode cJ3_checkFromToIndex_8c36e 6 = .ok (.if_icmp .gt 8, 3) := by decide +kernel
theorem dJ3_checkFromToIndex_8c36e_9 : decode cJ3_checkFromToIndex_8c36e 9 = .ok (.iload_n 1, 1) := by decide +kernel
theorem dJ3_checkFromToIndex_8c36e_10 : decode cJ3_checkFromToIndex_8c36e 10 = .ok (.iload_n 2, 1) := by decide +kernel
theorem dJ3_checkFromToIndex_8c36e_11 : decode cJ3_checkFromToIndex_8c36e 11 = .ok (.if_icmp .le 11, 3) := by decide +kernel
theorem dJ3_checkFromToIndex_8c36e_14 : decode cJ3_checkFromToIndex_8c36e 14 = .ok (.aload_n 3, 1) := by decide +kernel
theorem dJ3_checkFromToIndex_8c36e_15 : decode cJ3_checkFromToIndex_8c36e 15 = .ok (.iload_n 0, 1) := by decide +kernel
theorem dJ3_checkFromToIndex_8c36e_16 : decode cJ3_checkFromToIndex_8c36e 16 = .ok (.iload_n 1, 1) := by decide +kernel
theorem dJ3_checkFromToIndex_8c36e_17 : decode cJ3_checkFromToIndex_8c36e 17 = .ok (.iload_n 2, 1) := by decide +kernel
theorem dJ3_checkFromToIndex_8c36e_18 : decode cJ3_checkFromToIndex_8c36e 18 = .ok (.invokestatic 99, 3) := by decide +kernel
theorem dJ3_checkFromToIndex_8c36e_21 : decode cJ3_checkFromToIndex_8c36e 21 = .ok (.athrow, 1) := by decide +kernel
theorem dJ3_checkFromToIndex_8c36e_22 : decode cJ3_checkFromToIndex_8c36e 22 = .ok (.iload_n 0, 1) := by decide +kernel
theorem dJ3_checkFromToIndex_8c36e_23 : decode cJ3_checkFromToIndex_8c36e 23 = .ok (.ireturn, 1) := by decide +kernel
