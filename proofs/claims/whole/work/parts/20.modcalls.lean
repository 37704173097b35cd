theorem d_M_at_0 : decode b_M_at 0 = .ok (.aload_n 0, 1) := by decide +kernel
theorem d_M_at_1 : decode b_M_at 1 = .ok (.aload_n 0, 1) := by decide +kernel
theorem d_M_at_2 : decode b_M_at 2 = .ok (.getfield 121, 3) := by decide +kernel
theorem d_M_at_5 : decode b_M_at 5 = .ok (.ifCond .ne 7, 3) := by decide +kernel
theorem d_M_at_8 : decode b_M_at 8 = .ok (.iconst 1, 1) := by decide +kernel
theorem d_M_at_9 : decode b_M_at 9 = .ok (.goto 28, 3) := by decide +kernel
theorem d_M_at_37 : decode b_M_at 37 = .ok (.putfield 82, 3) := by decide +kernel
theorem d_M_at_40 : decode b_M_at 40 = .ok (.aload_n 0, 1) := by decide +kernel
theorem d_M_at_41 : decode b_M_at 41 = .ok (.getfield 82, 3) := by decide +kernel
theorem d_M_at_44 : decode b_M_at 44 = .ok (.ifCond .eq 7, 3) := by decide +kernel
theorem d_M_at_47 : decode b_M_at 47 = .ok (.iconst 0, 1) := by decide +kernel
theorem d_M_at_48 : decode b_M_at 48 = .ok (.goto 13, 3) := by decide +kernel
theorem d_M_at_61 : decode b_M_at 61 = .ok (.ireturn, 1) := by decide +kernel
theorem d_M_clear_0 : decode b_M_clear 0 = .ok (.aload_n 0, 1) := by decide +kernel
theorem d_M_clear_1 : decode b_M_clear 1 = .ok (.iconst 0, 1) := by decide +kernel
theorem d_M_clear_2 : decode b_M_clear 2 = .ok (.putfield 82, 3) := by decide +kernel
theorem d_M_clear_5 : decode b_M_clear 5 = .ok (.aload_n 0, 1) := by decide +kernel
theorem d_M_clear_6 : decode b_M_clear 6 = .ok (.iconst 0, 1) := by decide +kernel
theorem d_M_clear_7 : decode b_M_clear 7 = .ok (.putfield 91, 3) := by decide +kernel
theorem d_M_clear_10 : decode b_M_clear 10 = .ok (.aload_n 0, 1) := by decide +kernel
theorem d_M_clear_11 : decode b_M_clear 11 = .ok (.iconst 0, 1) := by decide +kernel
theorem d_M_clear_12 : decode b_M_clear 12 = .ok (.putfield 118, 3) := by decide +kernel
theorem d_M_clear_15 : decode b_M_clear 15 = .ok (.aload_n 0, 1) := by decide +kernel
theorem d_M_clear_16 : decode b_M_clear 16 = .ok (.iconst 0, 1) := by decide +kernel
theorem d_M_clear_17 : decode b_M_clear 17 = .ok (.putfield 125, 3) := by decide +kernel
theorem d_M_clear_20 : decode b_M_clear 20 = .ok (.aload_n 0, 1) := by decide +kernel
theorem d_M_clear_21 : decode b_M_clear 21 = .ok (.iconst 0, 1) := by decide +kernel
theorem d_M_clear_22 : decode b_M_clear 22 = .ok (.putfield 121, 3) := by decide +kernel
theorem d_M_clear_25 : decode b_M_clear 25 = .ok (.aload_n 0, 1) := by decide +kernel
theorem d_M_clear_26 : decode b_M_clear 26 = .ok (.iconst 0, 1) := by decide +kernel
theorem d_M_clear_27 : decode b_M_clear 27 = .ok (.putfield 132, 3) := by decide +kernel
theorem d_M_clear_30 : decode b_M_clear 30 = .ok (.iconst 0, 1) := by decide +kernel
theorem d_M_clear_31 : decode b_M_clear 31 = .ok (.istore_n 1, 1) := by decide +kernel
theorem d_M_clear_32 : decode b_M_clear 32 = .ok (.iload_n 1, 1) := by decide +kernel
theorem d_M_clear_33 : decode b_M_clear 33 = .ok (.ldc 7, 2) := by decide +kernel
theorem d_M_clear_35 : decode b_M_clear 35 = .ok (.if_icmp .ge 16, 3) := by decide +kernel
theorem d_M_clear_38 : decode b_M_clear 38 = .ok (.aload_n 0, 1) := by decide +kernel
theorem d_M_clear_39 : decode b_M_clear 39 = .ok (.getfield 8, 3) := by decide +kernel
theorem d_M_clear_42 : decode b_M_clear 42 = .ok (.iload_n 1, 1) := by decide +kernel
theorem d_M_clear_43 : decode b_M_clear 43 = .ok (.iconst 0, 1) := by decide +kernel
theorem d_M_clear_44 : decode b_M_clear 44 = .ok (.iastore, 1) := by decide +kernel
theorem d_M_clear_45 : decode b_M_clear 45 = .ok (.iinc 1 1, 3) := by decide +kernel
theorem d_M_clear_48 : decode b_M_clear 48 = .ok (.goto (-16), 3) := by decide +kernel
theorem d_M_clear_51 : decode b_M_clear 51 = .ok (.return_, 1) := by decide +kernel
theorem d_M_count_0 : decode b_M_count 0 = .ok (.aload_n 0, 1) := by decide +kernel
theorem d_M_count_1 : decode b_M_count 1 = .ok (.iconst 0, 1) := by decide +kernel
theorem d_M_count_2 : decode b_M_count 2 = .ok (.putfield 82, 3) := by decide +kernel
theorem d_M_count_5 : decode b_M_count 5 = .ok (.iload_n 1, 1) := by decide +kernel
theorem d_M_count_6 : decode b_M_count 6 = .ok (.ifCond .ne 10, 3) := by decide +kernel
theorem d_M_count_9 : decode b_M_count 9 = .ok (.aload_n 0, 1) := by decide +kernel
theorem d_M_count_10 : decode b_M_count 10 = .ok (.getfield 91, 3) := by decide +kernel
theorem d_M_count_13 : decode b_M_count 13 = .ok (.goto 28, 3) := by decide +kernel
theorem d_M_count_16 : decode b_M_count 16 = .ok (.iload_n 1, 1) := by decide +kernel
theorem d_M_count_17 : decode b_M_count 17 = .ok (.iconst 1, 1) := by decide +kernel
theorem d_M_count_18 : decode b_M_count 18 = .ok (.if_icmp .ne 10, 3) := by decide +kernel
theorem d_M_count_21 : decode b_M_count 21 = .ok (.aload_n 0, 1) := by decide +kernel
theorem d_M_count_22 : decode b_M_count 22 = .ok (.getfield 118, 3) := by decide +kernel
theorem d_M_count_25 : decode b_M_count 25 = .ok (.goto 16, 3) := by decide +kernel
theorem d_M_count_28 : decode b_M_count 28 = .ok (.iload_n 1, 1) := by decide +kernel
theorem d_M_count_29 : decode b_M_count 29 = .ok (.iconst 2, 1) := by decide +kernel
theorem d_M_count_30 : decode b_M_count 30 = .ok (.if_icmp .ne 10, 3) := by decide +kernel
theorem d_M_count_33 : decode b_M_count 33 = .ok (.aload_n 0, 1) := by decide +kernel
theorem d_M_count_34 : decode b_M_count 34 = .ok (.getfield 78, 3) := by decide +kernel
theorem d_M_count_37 : decode b_M_count 37 = .ok (.goto 4, 3) := by decide +kernel
theorem d_M_count_40 : decode b_M_count 40 = .ok (.iconst (-1), 1) := by decide +kernel
theorem d_M_count_41 : decode b_M_count 41 = .ok (.ireturn, 1) := by decide +kernel
theorem d_M_free_0 : decode b_M_free 0 = .ok (.aload_n 0, 1) := by decide +kernel
theorem d_M_free_1 : decode b_M_free 1 = .ok (.iconst 0, 1) := by decide +kernel
theorem d_M_free_2 : decode b_M_free 2 = .ok (.putfield 82, 3) := by decide +kernel
theorem d_M_free_5 : decode b_M_free 5 = .ok (.iconst 0, 1) := by decide +kernel
theorem d_M_free_6 : decode b_M_free 6 = .ok (.istore_n 2, 1) := by decide +kernel
theorem d_M_free_7 : decode b_M_free 7 = .ok (.iconst 0, 1) := by decide +kernel
theorem d_M_free_8 : decode b_M_free 8 = .ok (.istore_n 3, 1) := by decide +kernel
theorem d_M_free_9 : decode b_M_free 9 = .ok (.iload_n 3, 1) := by decide +kernel
theorem d_M_free_10 : decode b_M_free 10 = .ok (.aload_n 0, 1) := by decide +kernel
theorem d_M_free_11 : decode b_M_free 11 = .ok (.getfield 78, 3) := by decide +kernel
theorem d_M_free_14 : decode b_M_free 14 = .ok (.if_icmp .ge 35, 3) := by decide +kernel
theorem d_M_free_17 : decode b_M_free 17 = .ok (.aload_n 0, 1) := by decide +kernel
theorem d_M_free_18 : decode b_M_free 18 = .ok (.getfield 132, 3) := by decide +kernel
theorem d_M_free_21 : decode b_M_free 21 = .ok (.ifCond .eq 28, 3) := by decide +kernel
theorem d_M_free_49 : decode b_M_free 49 = .ok (.iconst (-1), 1) := by decide +kernel
theorem d_M_free_50 : decode b_M_free 50 = .ok (.ireturn, 1) := by decide +kernel
theorem d_M_left_0 : decode b_M_left 0 = .ok (.aload_n 0, 1) := by decide +kernel
theorem d_M_left_1 : decode b_M_left 1 = .ok (.aload_n 0, 1) := by decide +kernel
theorem d_M_left_2 : decode b_M_left 2 = .ok (.getfield 121, 3) := by decide +kernel
theorem d_M_left_5 : decode b_M_left 5 = .ok (.ifCond .eq 7, 3) := by decide +kernel
theorem d_M_left_12 : decode b_M_left 12 = .ok (.iconst 1, 1) := by decide +kernel
theorem d_M_left_13 : decode b_M_left 13 = .ok (.putfield 82, 3) := by decide +kernel
theorem d_M_left_16 : decode b_M_left 16 = .ok (.aload_n 0, 1) := by decide +kernel
theorem d_M_left_17 : decode b_M_left 17 = .ok (.getfield 121, 3) := by decide +kernel
theorem d_M_left_20 : decode b_M_left 20 = .ok (.ifCond .ne 5, 3) := by decide +kernel
theorem d_M_left_23 : decode b_M_left 23 = .ok (.iconst 0, 1) := by decide +kernel
theorem d_M_left_24 : decode b_M_left 24 = .ok (.ireturn, 1) := by decide +kernel
theorem d_M_minimal_0 : decode b_M_minimal 0 = .ok (.aload_n 0, 1) := by decide +kernel
theorem d_M_minimal_1 : decode b_M_minimal 1 = .ok (.aload_n 0, 1) := by decide +kernel
theorem d_M_minimal_2 : decode b_M_minimal 2 = .ok (.getfield 121, 3) := by decide +kernel
theorem d_M_minimal_5 : decode b_M_minimal 5 = .ok (.ifCond .ne 7, 3) := by decide +kernel
theorem d_M_minimal_8 : decode b_M_minimal 8 = .ok (.iconst 1, 1) := by decide +kernel
theorem d_M_minimal_9 : decode b_M_minimal 9 = .ok (.goto 16, 3) := by decide +kernel
theorem d_M_minimal_25 : decode b_M_minimal 25 = .ok (.putfield 82, 3) := by decide +kernel
theorem d_M_minimal_28 : decode b_M_minimal 28 = .ok (.aload_n 0, 1) := by decide +kernel
theorem d_M_minimal_29 : decode b_M_minimal 29 = .ok (.getfield 82, 3) := by decide +kernel
theorem d_M_minimal_32 : decode b_M_minimal 32 = .ok (.ifCond .eq 5, 3) := by decide +kernel
theorem d_M_minimal_35 : decode b_M_minimal 35 = .ok (.iconst 0, 1) := by decide +kernel
theorem d_M_minimal_36 : decode b_M_minimal 36 = .ok (.ireturn, 1) := by decide +kernel
theorem d_M_multiplicity_0 : decode b_M_multiplicity 0 = .ok (.aload_n 0, 1) := by decide +kernel
theorem d_M_multiplicity_1 : decode b_M_multiplicity 1 = .ok (.aload_n 0, 1) := by decide +kernel
theorem d_M_multiplicity_2 : decode b_M_multiplicity 2 = .ok (.getfield 121, 3) := by decide +kernel
theorem d_M_multiplicity_5 : decode b_M_multiplicity 5 = .ok (.ifCond .ne 7, 3) := by decide +kernel
theorem d_M_multiplicity_8 : decode b_M_multiplicity 8 = .ok (.iconst 1, 1) := by decide +kernel
theorem d_M_multiplicity_9 : decode b_M_multiplicity 9 = .ok (.goto 16, 3) := by decide +kernel
theorem d_M_multiplicity_25 : decode b_M_multiplicity 25 = .ok (.putfield 82, 3) := by decide +kernel
theorem d_M_multiplicity_28 : decode b_M_multiplicity 28 = .ok (.aload_n 0, 1) := by decide +kernel
theorem d_M_multiplicity_29 : decode b_M_multiplicity 29 = .ok (.getfield 82, 3) := by decide +kernel
theorem d_M_multiplicity_32 : decode b_M_multiplicity 32 = .ok (.ifCond .eq 7, 3) := by decide +kernel
theorem d_M_multiplicity_35 : decode b_M_multiplicity 35 = .ok (.iconst 0, 1) := by decide +kernel
theorem d_M_multiplicity_36 : decode b_M_multiplicity 36 = .ok (.goto 9, 3) := by decide +kernel
theorem d_M_multiplicity_45 : decode b_M_multiplicity 45 = .ok (.ireturn, 1) := by decide +kernel
theorem d_M_poly_0 : decode b_M_poly 0 = .ok (.aload_n 0, 1) := by decide +kernel
theorem d_M_poly_1 : decode b_M_poly 1 = .ok (.aload_n 0, 1) := by decide +kernel
theorem d_M_poly_2 : decode b_M_poly 2 = .ok (.getfield 91, 3) := by decide +kernel
theorem d_M_poly_5 : decode b_M_poly 5 = .ok (.bipush 40, 2) := by decide +kernel
theorem d_M_poly_7 : decode b_M_poly 7 = .ok (.if_icmp .ne 7, 3) := by decide +kernel
theorem d_M_poly_10 : decode b_M_poly 10 = .ok (.iconst 1, 1) := by decide +kernel
theorem d_M_poly_11 : decode b_M_poly 11 = .ok (.goto 4, 3) := by decide +kernel
theorem d_M_poly_14 : decode b_M_poly 14 = .ok (.iconst 0, 1) := by decide +kernel
theorem d_M_poly_15 : decode b_M_poly 15 = .ok (.putfield 82, 3) := by decide +kernel
theorem d_M_poly_18 : decode b_M_poly 18 = .ok (.aload_n 0, 1) := by decide +kernel
theorem d_M_poly_19 : decode b_M_poly 19 = .ok (.getfield 82, 3) := by decide +kernel
theorem d_M_poly_22 : decode b_M_poly 22 = .ok (.ifCond .eq 5, 3) := by decide +kernel
theorem d_M_poly_25 : decode b_M_poly 25 = .ok (.iconst 0, 1) := by decide +kernel
theorem d_M_poly_26 : decode b_M_poly 26 = .ok (.ireturn, 1) := by decide +kernel
theorem d_M_poly_27 : decode b_M_poly 27 = .ok (.iconst 0, 1) := by decide +kernel
theorem d_M_poly_28 : decode b_M_poly 28 = .ok (.istore_n 1, 1) := by decide +kernel
theorem d_M_poly_29 : decode b_M_poly 29 = .ok (.iload_n 1, 1) := by decide +kernel
theorem d_M_poly_30 : decode b_M_poly 30 = .ok (.sipush 1000, 3) := by decide +kernel
theorem d_M_poly_33 : decode b_M_poly 33 = .ok (.if_icmp .ge 25, 3) := by decide +kernel
theorem d_M_poly_36 : decode b_M_poly 36 = .ok (.aload_n 0, 1) := by decide +kernel
theorem d_M_poly_37 : decode b_M_poly 37 = .ok (.getfield 8, 3) := by decide +kernel
theorem d_M_poly_40 : decode b_M_poly 40 = .ok (.sipush 1000, 3) := by decide +kernel
theorem d_M_poly_43 : decode b_M_poly 43 = .ok (.aload_n 0, 1) := by decide +kernel
theorem d_M_poly_44 : decode b_M_poly 44 = .ok (.getfield 91, 3) := by decide +kernel
theorem d_M_poly_47 : decode b_M_poly 47 = .ok (.imul, 1) := by decide +kernel
theorem d_M_poly_48 : decode b_M_poly 48 = .ok (.iload_n 1, 1) := by decide +kernel
theorem d_M_poly_49 : decode b_M_poly 49 = .ok (.iadd, 1) := by decide +kernel
theorem d_M_poly_50 : decode b_M_poly 50 = .ok (.iconst 0, 1) := by decide +kernel
theorem d_M_poly_51 : decode b_M_poly 51 = .ok (.iastore, 1) := by decide +kernel
theorem d_M_poly_52 : decode b_M_poly 52 = .ok (.iinc 1 1, 3) := by decide +kernel
theorem d_M_poly_55 : decode b_M_poly 55 = .ok (.goto (-26), 3) := by decide +kernel
theorem d_M_poly_58 : decode b_M_poly 58 = .ok (.aload_n 0, 1) := by decide +kernel
theorem d_M_poly_59 : decode b_M_poly 59 = .ok (.dup, 1) := by decide +kernel
theorem d_M_poly_60 : decode b_M_poly 60 = .ok (.getfield 91, 3) := by decide +kernel
theorem d_M_poly_63 : decode b_M_poly 63 = .ok (.iconst 1, 1) := by decide +kernel
theorem d_M_poly_64 : decode b_M_poly 64 = .ok (.iadd, 1) := by decide +kernel
theorem d_M_poly_65 : decode b_M_poly 65 = .ok (.putfield 91, 3) := by decide +kernel
theorem d_M_poly_68 : decode b_M_poly 68 = .ok (.aload_n 0, 1) := by decide +kernel
theorem d_M_poly_69 : decode b_M_poly 69 = .ok (.getfield 91, 3) := by decide +kernel
theorem d_M_poly_72 : decode b_M_poly 72 = .ok (.iconst 1, 1) := by decide +kernel
theorem d_M_poly_73 : decode b_M_poly 73 = .ok (.isub, 1) := by decide +kernel
theorem d_M_poly_74 : decode b_M_poly 74 = .ok (.ireturn, 1) := by decide +kernel
theorem d_M_take_0 : decode b_M_take 0 = .ok (.aload_n 0, 1) := by decide +kernel
theorem d_M_take_1 : decode b_M_take 1 = .ok (.iload_n 1, 1) := by decide +kernel
theorem d_M_take_2 : decode b_M_take 2 = .ok (.invokestatic 101, 3) := by decide +kernel
theorem d_M_take_5 : decode b_M_take 5 = .ok (.ifCond .eq 7, 3) := by decide +kernel
theorem d_M_take_8 : decode b_M_take 8 = .ok (.iconst 0, 1) := by decide +kernel
theorem d_M_take_9 : decode b_M_take 9 = .ok (.goto 4, 3) := by decide +kernel
theorem d_M_take_12 : decode b_M_take 12 = .ok (.iconst 1, 1) := by decide +kernel
theorem d_M_take_13 : decode b_M_take 13 = .ok (.putfield 82, 3) := by decide +kernel
theorem d_M_take_16 : decode b_M_take 16 = .ok (.aload_n 0, 1) := by decide +kernel
theorem d_M_take_17 : decode b_M_take 17 = .ok (.getfield 82, 3) := by decide +kernel
theorem d_M_take_20 : decode b_M_take 20 = .ok (.ifCond .ne 12, 3) := by decide +kernel
theorem d_M_take_23 : decode b_M_take 23 = .ok (.aload_n 0, 1) := by decide +kernel
theorem d_M_take_24 : decode b_M_take 24 = .ok (.getfield 118, 3) := by decide +kernel
theorem d_M_take_27 : decode b_M_take 27 = .ok (.bipush 12, 2) := by decide +kernel
theorem d_M_take_29 : decode b_M_take 29 = .ok (.if_icmp .ne 5, 3) := by decide +kernel
theorem d_M_take_32 : decode b_M_take 32 = .ok (.iconst 0, 1) := by decide +kernel
theorem d_M_take_33 : decode b_M_take 33 = .ok (.ireturn, 1) := by decide +kernel
theorem d_M_take_34 : decode b_M_take 34 = .ok (.aload_n 0, 1) := by decide +kernel
theorem d_M_take_35 : decode b_M_take 35 = .ok (.dup, 1) := by decide +kernel
theorem d_M_take_36 : decode b_M_take 36 = .ok (.getfield 118, 3) := by decide +kernel
theorem d_M_take_39 : decode b_M_take 39 = .ok (.iconst 1, 1) := by decide +kernel
theorem d_M_take_40 : decode b_M_take 40 = .ok (.iadd, 1) := by decide +kernel
theorem d_M_take_41 : decode b_M_take 41 = .ok (.putfield 118, 3) := by decide +kernel
theorem d_M_take_44 : decode b_M_take 44 = .ok (.aload_n 0, 1) := by decide +kernel
theorem d_M_take_45 : decode b_M_take 45 = .ok (.iconst 0, 1) := by decide +kernel
theorem d_M_take_46 : decode b_M_take 46 = .ok (.putfield 121, 3) := by decide +kernel
theorem d_M_take_49 : decode b_M_take 49 = .ok (.iconst 0, 1) := by decide +kernel
theorem d_M_take_50 : decode b_M_take 50 = .ok (.istore_n 2, 1) := by decide +kernel
theorem d_M_take_51 : decode b_M_take 51 = .ok (.iconst (-1), 1) := by decide +kernel
theorem d_M_take_52 : decode b_M_take 52 = .ok (.istore_n 3, 1) := by decide +kernel
theorem d_M_take_53 : decode b_M_take 53 = .ok (.iconst 0, 1) := by decide +kernel
theorem d_M_take_54 : decode b_M_take 54 = .ok (.istore 4, 2) := by decide +kernel
theorem d_M_take_56 : decode b_M_take 56 = .ok (.iload 4, 2) := by decide +kernel
theorem d_M_take_58 : decode b_M_take 58 = .ok (.sipush 1000, 3) := by decide +kernel
theorem d_M_take_61 : decode b_M_take 61 = .ok (.if_icmp .ge 94, 3) := by decide +kernel
theorem d_M_take_64 : decode b_M_take 64 = .ok (.aload_n 0, 1) := by decide +kernel
theorem d_M_take_65 : decode b_M_take 65 = .ok (.getfield 8, 3) := by decide +kernel
theorem d_M_take_68 : decode b_M_take 68 = .ok (.sipush 1000, 3) := by decide +kernel
theorem d_M_take_71 : decode b_M_take 71 = .ok (.iload_n 1, 1) := by decide +kernel
theorem d_M_take_72 : decode b_M_take 72 = .ok (.imul, 1) := by decide +kernel
theorem d_M_take_73 : decode b_M_take 73 = .ok (.iload 4, 2) := by decide +kernel
theorem d_M_take_75 : decode b_M_take 75 = .ok (.iadd, 1) := by decide +kernel
theorem d_M_take_76 : decode b_M_take 76 = .ok (.iaload, 1) := by decide +kernel
theorem d_M_take_77 : decode b_M_take 77 = .ok (.istore 5, 2) := by decide +kernel
theorem d_M_take_79 : decode b_M_take 79 = .ok (.iload 5, 2) := by decide +kernel
theorem d_M_take_81 : decode b_M_take 81 = .ok (.ifCond .eq 68, 3) := by decide +kernel
theorem d_M_take_149 : decode b_M_take 149 = .ok (.iinc 4 1, 3) := by decide +kernel
theorem d_M_take_152 : decode b_M_take 152 = .ok (.goto (-96), 3) := by decide +kernel
theorem d_M_take_155 : decode b_M_take 155 = .ok (.iload_n 2, 1) := by decide +kernel
theorem d_M_take_156 : decode b_M_take 156 = .ok (.ifCond .ne 5, 3) := by decide +kernel
theorem d_M_take_159 : decode b_M_take 159 = .ok (.iconst 1, 1) := by decide +kernel
theorem d_M_take_160 : decode b_M_take 160 = .ok (.ireturn, 1) := by decide +kernel
theorem d_M_term_0 : decode b_M_term 0 = .ok (.aload_n 0, 1) := by decide +kernel
theorem d_M_term_1 : decode b_M_term 1 = .ok (.iload_n 1, 1) := by decide +kernel
theorem d_M_term_2 : decode b_M_term 2 = .ok (.invokestatic 101, 3) := by decide +kernel
theorem d_M_term_5 : decode b_M_term 5 = .ok (.ifCond .ne 7, 3) := by decide +kernel
theorem d_M_term_8 : decode b_M_term 8 = .ok (.iconst 1, 1) := by decide +kernel
theorem d_M_term_9 : decode b_M_term 9 = .ok (.goto 29, 3) := by decide +kernel
theorem d_M_term_12 : decode b_M_term 12 = .ok (.aload_n 0, 1) := by decide +kernel
theorem d_M_term_13 : decode b_M_term 13 = .ok (.iload 6, 2) := by decide +kernel
theorem d_M_term_15 : decode b_M_term 15 = .ok (.invokevirtual 105, 3) := by decide +kernel
theorem d_M_term_18 : decode b_M_term 18 = .ok (.ifCond .ne 7, 3) := by decide +kernel
theorem d_M_term_21 : decode b_M_term 21 = .ok (.iconst 2, 1) := by decide +kernel
theorem d_M_term_22 : decode b_M_term 22 = .ok (.goto 16, 3) := by decide +kernel
theorem d_M_term_25 : decode b_M_term 25 = .ok (.lload 4, 2) := by decide +kernel
theorem d_M_term_27 : decode b_M_term 27 = .ok (.invokestatic 108, 3) := by decide +kernel
theorem d_M_term_30 : decode b_M_term 30 = .ok (.ifCond .ne 7, 3) := by decide +kernel
theorem d_M_term_33 : decode b_M_term 33 = .ok (.iconst 3, 1) := by decide +kernel
theorem d_M_term_34 : decode b_M_term 34 = .ok (.goto 4, 3) := by decide +kernel
theorem d_M_term_37 : decode b_M_term 37 = .ok (.iconst 0, 1) := by decide +kernel
theorem d_M_term_38 : decode b_M_term 38 = .ok (.putfield 82, 3) := by decide +kernel
theorem d_M_term_41 : decode b_M_term 41 = .ok (.aload_n 0, 1) := by decide +kernel
theorem d_M_term_42 : decode b_M_term 42 = .ok (.getfield 82, 3) := by decide +kernel
theorem d_M_term_45 : decode b_M_term 45 = .ok (.ifCond .eq 5, 3) := by decide +kernel
theorem d_M_term_48 : decode b_M_term 48 = .ok (.iconst 0, 1) := by decide +kernel
theorem d_M_term_49 : decode b_M_term 49 = .ok (.ireturn, 1) := by decide +kernel
theorem d_M_term_50 : decode b_M_term 50 = .ok (.lload_n 2, 1) := by decide +kernel
theorem d_M_term_51 : decode b_M_term 51 = .ok (.invokestatic 108, 3) := by decide +kernel
theorem d_M_term_54 : decode b_M_term 54 = .ok (.lload 4, 2) := by decide +kernel
theorem d_M_term_56 : decode b_M_term 56 = .ok (.invokestatic 108, 3) := by decide +kernel
theorem d_M_term_59 : decode b_M_term 59 = .ok (.invokestatic 112, 3) := by decide +kernel
theorem d_M_term_62 : decode b_M_term 62 = .ok (.invokestatic 87, 3) := by decide +kernel
theorem d_M_term_65 : decode b_M_term 65 = .ok (.istore 7, 2) := by decide +kernel
theorem d_M_term_67 : decode b_M_term 67 = .ok (.sipush 1000, 3) := by decide +kernel
theorem d_M_term_70 : decode b_M_term 70 = .ok (.iload_n 1, 1) := by decide +kernel
theorem d_M_term_71 : decode b_M_term 71 = .ok (.imul, 1) := by decide +kernel
theorem d_M_term_72 : decode b_M_term 72 = .ok (.iload 6, 2) := by decide +kernel
theorem d_M_term_74 : decode b_M_term 74 = .ok (.invokestatic 115, 3) := by decide +kernel
theorem d_M_term_77 : decode b_M_term 77 = .ok (.iadd, 1) := by decide +kernel
theorem d_M_term_78 : decode b_M_term 78 = .ok (.istore 8, 2) := by decide +kernel
theorem d_M_term_80 : decode b_M_term 80 = .ok (.aload_n 0, 1) := by decide +kernel
theorem d_M_term_81 : decode b_M_term 81 = .ok (.getfield 8, 3) := by decide +kernel
theorem d_M_term_84 : decode b_M_term 84 = .ok (.iload 8, 2) := by decide +kernel
theorem d_M_term_86 : decode b_M_term 86 = .ok (.iaload, 1) := by decide +kernel
theorem d_M_term_87 : decode b_M_term 87 = .ok (.iload 7, 2) := by decide +kernel
theorem d_M_term_89 : decode b_M_term 89 = .ok (.if_icmp .eq 7, 3) := by decide +kernel
theorem d_M_term_92 : decode b_M_term 92 = .ok (.iconst 1, 1) := by decide +kernel
theorem d_M_term_93 : decode b_M_term 93 = .ok (.goto 4, 3) := by decide +kernel
theorem d_M_term_96 : decode b_M_term 96 = .ok (.iconst 0, 1) := by decide +kernel
theorem d_M_term_97 : decode b_M_term 97 = .ok (.istore 9, 2) := by decide +kernel
theorem d_M_term_99 : decode b_M_term 99 = .ok (.aload_n 0, 1) := by decide +kernel
theorem d_M_term_100 : decode b_M_term 100 = .ok (.getfield 8, 3) := by decide +kernel
theorem d_M_term_103 : decode b_M_term 103 = .ok (.iload 8, 2) := by decide +kernel
theorem d_M_term_105 : decode b_M_term 105 = .ok (.iload 7, 2) := by decide +kernel
theorem d_M_term_107 : decode b_M_term 107 = .ok (.iastore, 1) := by decide +kernel
theorem d_M_term_108 : decode b_M_term 108 = .ok (.iload 9, 2) := by decide +kernel
theorem d_M_term_110 : decode b_M_term 110 = .ok (.ireturn, 1) := by decide +kernel
theorem d_M_total_0 : decode b_M_total 0 = .ok (.aload_n 0, 1) := by decide +kernel
theorem d_M_total_1 : decode b_M_total 1 = .ok (.aload_n 0, 1) := by decide +kernel
theorem d_M_total_2 : decode b_M_total 2 = .ok (.getfield 121, 3) := by decide +kernel
theorem d_M_total_5 : decode b_M_total 5 = .ok (.ifCond .eq 7, 3) := by decide +kernel
theorem d_M_total_12 : decode b_M_total 12 = .ok (.iconst 1, 1) := by decide +kernel
theorem d_M_total_13 : decode b_M_total 13 = .ok (.putfield 82, 3) := by decide +kernel
theorem d_M_total_16 : decode b_M_total 16 = .ok (.aload_n 0, 1) := by decide +kernel
theorem d_M_total_17 : decode b_M_total 17 = .ok (.getfield 121, 3) := by decide +kernel
theorem d_M_total_20 : decode b_M_total 20 = .ok (.ifCond .eq 10, 3) := by decide +kernel
theorem d_M_total_30 : decode b_M_total 30 = .ok (.iconst 0, 1) := by decide +kernel
theorem d_M_total_31 : decode b_M_total 31 = .ok (.ireturn, 1) := by decide +kernel
theorem d_M_value_0 : decode b_M_value 0 = .ok (.aload_n 0, 1) := by decide +kernel
theorem d_M_value_1 : decode b_M_value 1 = .ok (.aload_n 0, 1) := by decide +kernel
theorem d_M_value_2 : decode b_M_value 2 = .ok (.getfield 121, 3) := by decide +kernel
theorem d_M_value_5 : decode b_M_value 5 = .ok (.ifCond .ne 7, 3) := by decide +kernel
theorem d_M_value_8 : decode b_M_value 8 = .ok (.iconst 1, 1) := by decide +kernel
theorem d_M_value_9 : decode b_M_value 9 = .ok (.goto 23, 3) := by decide +kernel
theorem d_M_value_32 : decode b_M_value 32 = .ok (.putfield 82, 3) := by decide +kernel
theorem d_M_value_35 : decode b_M_value 35 = .ok (.aload_n 0, 1) := by decide +kernel
theorem d_M_value_36 : decode b_M_value 36 = .ok (.getfield 82, 3) := by decide +kernel
theorem d_M_value_39 : decode b_M_value 39 = .ok (.ifCond .eq 5, 3) := by decide +kernel
theorem d_M_value_42 : decode b_M_value 42 = .ok (.iconst 0, 1) := by decide +kernel
theorem d_M_value_43 : decode b_M_value 43 = .ok (.ireturn, 1) := by decide +kernel
set_option maxHeartbeats 4000000 in
set_option maxRecDepth 100000 in
/-- nothing is known -/
theorem c_M_totalU (l : Launch) (D : mp_G) (g : Nat → ClassId) (S : mp_M) (sz : Nat) (o : Nat) (m0 m1 m2 m4 m5 m6 m7 m8 m9 m10 m11 m13 m14 m15 m16 m17 m18 m19 m20 m21 m22 m23 m24 m25 m26 m27 m28 m29 m30 : Value) (th : Int32)  (h_o : S o = some (2000, .inr (10, [m0, m1, m2, .int th, m4, m5, m6, m7, m8, m9, m10, m11, .int 0, m13, m14, m15, m16, m17, m18, m19, m20, m21, m22, m23, m24, m25, m26, m27, m28, m29, m30])))  : Met l y_M_total w_M_total ({ frames := 0, cells := 0, slots := 0, locals := 0 }) (va_Pc [.ref o] (mp_B0 D classes (tys g) S sz)) (va_Qi (fun (r : Int32) (S1 : mp_M) => S1 o = some (2000, .inr (10, [m0, m1, m2, .int (nI 1), m4, m5, m6, m7, m8, m9, m10, m11, .int 0, m13, m14, m15, m16, m17, m18, m19, m20, m21, m22, m23, m24, m25, m26, m27, m28, m29, m30])) ∧ (∀ b, S b ≠ none → b ≠ o → S1 b = S b)) (mp_B1 D classes S sz) (mp_A S sz)) 0 0 (mp_A S sz) := by
  refine Met.ofW (cc := b_M_total) (maxL := 1) (ret := (some .int)) (by decide) rfl ?_
  intro p e s m args below meth c s₁ B hml hv
  obtain ⟨rfl, hsz, hH, hK⟩ := hv
  have hx := B.exec
  have hb := B.bytes
  have hr := B.returns
  have hts := atoms_spec (ws := w_M_total) B.pre
  have hg : ∀ w ∈ gw, w.before _ s = true := fun w h => hts w (List.mem_cons_of_mem _ h)
  have hown : s.vm.findClass R_M = some m.cls := findClass_of_methodNamed B.named
  have hlocks := B.notSynchronized
  subst hsz
  have hI := mp_I.start hH
  have hl := lv_entry ([.ref o]) (n := 1) (Nat.le_of_ble_eq_true rfl)
  rw [lg_entry_eq]
  generalize (lg_sl ([.ref o]) ++ List.replicate (1 - (lg_sl ([.ref o])).length) Slot.unset).toArray = ls at hl ⊢
  have hl : lv_has ls 1 [(0, .ref o)] := hl
  have hfr : ∀ b, S b ≠ none → b ≠ o → S b = S b := fun _ _ _ => rfl
  refine lv_aload_n hx hb d_M_total_0 rfl (lv_at hl 0 rfl) ?_
  refine lv_aload_n hx hb d_M_total_1 rfl (lv_at hl 0 rfl) ?_
  refine mp_get (C := R_M) (T := F_M) (N := 31) (v := .int 0) hx hb hg i_M hown hK.va hI h_o rfl 12 (by decide) (hg _ q_816) (fun _ h9 => h9) rfl d_M_total_2 ?_
  refine lv_if_eq (tgt := 12) hx hb d_M_total_5 (by decide) (fun _ => ?_) (fun h9 => absurd (by decide) h9)
  refine lv_iconst (v := nI 1) hx hb d_M_total_12 (by decide) ?_
  refine mp_put (C := R_M) (T := F_M) (N := 31) (v := .int (nI 1)) (ty := .int) hx hb hg i_M t_M t_M_ok n_M hown hK.va hI h_o rfl 3 (by decide) (hg _ q_807) (fun _ h9 => h9) rfl (by decide +kernel) (rfl) rfl (Nat.le_of_ble_eq_true rfl) d_M_total_13 (fun S1 H2 locs e_3 hI => ?_)
  have e_3 : S1 = va_up S o (some (2000, .inr (10, [m0, m1, m2, .int (nI 1), m4, m5, m6, m7, m8, m9, m10, m11, .int 0, m13, m14, m15, m16, m17, m18, m19, m20, m21, m22, m23, m24, m25, m26, m27, m28, m29, m30]))) := e_3
  have h_o : S1 o = some (2000, .inr (10, [m0, m1, m2, .int (nI 1), m4, m5, m6, m7, m8, m9, m10, m11, .int 0, m13, m14, m15, m16, m17, m18, m19, m20, m21, m22, m23, m24, m25, m26, m27, m28, m29, m30])) := by rw [e_3]; exact mp_us _ _ _
  have hfr : ∀ b, S b ≠ none → b ≠ o → S1 b = S b := fun b h9 k0 => by rw [e_3]; exact (mp_un k0).trans (hfr b h9 k0)
  refine lv_aload_n hx hb d_M_total_16 rfl (lv_at hl 0 rfl) ?_
  refine mp_get (C := R_M) (T := F_M) (N := 31) (v := .int 0) hx hb hg i_M hown hK.va hI h_o rfl 12 (by decide) (hg _ q_816) (fun _ h9 => h9) rfl d_M_total_17 ?_
  refine lv_if_eq (tgt := 30) hx hb d_M_total_20 (by decide) (fun _ => ?_) (fun h9 => absurd (by decide) h9)
  refine lv_iconst (v := nI 0) hx hb d_M_total_30 (by decide) ?_
  refine mp_iret hx hb hr hlocks hI (by decide) (by decide) ?_ d_M_total_31
  exact ⟨h_o, hfr⟩
set_option maxHeartbeats 4000000 in
set_option maxRecDepth 100000 in
/-- nothing is known -/
theorem c_M_leftU (l : Launch) (D : mp_G) (g : Nat → ClassId) (S : mp_M) (sz : Nat) (o : Nat) (m0 m1 m2 m4 m5 m6 m7 m8 m9 m10 m11 m13 m14 m15 m16 m17 m18 m19 m20 m21 m22 m23 m24 m25 m26 m27 m28 m29 m30 : Value) (th : Int32) (k : Int32) (h_o : S o = some (2000, .inr (10, [m0, m1, m2, .int th, m4, m5, m6, m7, m8, m9, m10, m11, .int 0, m13, m14, m15, m16, m17, m18, m19, m20, m21, m22, m23, m24, m25, m26, m27, m28, m29, m30])))  : Met l y_M_left w_M_left ({ frames := 0, cells := 0, slots := 0, locals := 0 }) (va_Pc [.ref o, .int k] (mp_B0 D classes (tys g) S sz)) (va_Qi (fun (r : Int32) (S1 : mp_M) => S1 o = some (2000, .inr (10, [m0, m1, m2, .int (nI 1), m4, m5, m6, m7, m8, m9, m10, m11, .int 0, m13, m14, m15, m16, m17, m18, m19, m20, m21, m22, m23, m24, m25, m26, m27, m28, m29, m30])) ∧ (∀ b, S b ≠ none → b ≠ o → S1 b = S b)) (mp_B1 D classes S sz) (mp_A S sz)) 0 0 (mp_A S sz) := by
  refine Met.ofW (cc := b_M_left) (maxL := 2) (ret := (some .int)) (by decide) rfl ?_
  intro p e s m args below meth c s₁ B hml hv
  obtain ⟨rfl, hsz, hH, hK⟩ := hv
  have hx := B.exec
  have hb := B.bytes
  have hr := B.returns
  have hts := atoms_spec (ws := w_M_left) B.pre
  have hg : ∀ w ∈ gw, w.before _ s = true := fun w h => hts w (List.mem_cons_of_mem _ h)
  have hown : s.vm.findClass R_M = some m.cls := findClass_of_methodNamed B.named
  have hlocks := B.notSynchronized
  subst hsz
  have hI := mp_I.start hH
  have hl := lv_entry ([.ref o, .int k]) (n := 2) (Nat.le_of_ble_eq_true rfl)
  rw [lg_entry_eq]
  generalize (lg_sl ([.ref o, .int k]) ++ List.replicate (2 - (lg_sl ([.ref o, .int k])).length) Slot.unset).toArray = ls at hl ⊢
  have hl : lv_has ls 2 [(0, .ref o), (1, .int k)] := hl
  have hfr : ∀ b, S b ≠ none → b ≠ o → S b = S b := fun _ _ _ => rfl
  refine lv_aload_n hx hb d_M_left_0 rfl (lv_at hl 0 rfl) ?_
  refine lv_aload_n hx hb d_M_left_1 rfl (lv_at hl 0 rfl) ?_
  refine mp_get (C := R_M) (T := F_M) (N := 31) (v := .int 0) hx hb hg i_M hown hK.va hI h_o rfl 12 (by decide) (hg _ q_816) (fun _ h9 => h9) rfl d_M_left_2 ?_
  refine lv_if_eq (tgt := 12) hx hb d_M_left_5 (by decide) (fun _ => ?_) (fun h9 => absurd (by decide) h9)
  refine lv_iconst (v := nI 1) hx hb d_M_left_12 (by decide) ?_
  refine mp_put (C := R_M) (T := F_M) (N := 31) (v := .int (nI 1)) (ty := .int) hx hb hg i_M t_M t_M_ok n_M hown hK.va hI h_o rfl 3 (by decide) (hg _ q_807) (fun _ h9 => h9) rfl (by decide +kernel) (rfl) rfl (Nat.le_of_ble_eq_true rfl) d_M_left_13 (fun S1 H2 locs e_3 hI => ?_)
  have e_3 : S1 = va_up S o (some (2000, .inr (10, [m0, m1, m2, .int (nI 1), m4, m5, m6, m7, m8, m9, m10, m11, .int 0, m13, m14, m15, m16, m17, m18, m19, m20, m21, m22, m23, m24, m25, m26, m27, m28, m29, m30]))) := e_3
  have h_o : S1 o = some (2000, .inr (10, [m0, m1, m2, .int (nI 1), m4, m5, m6, m7, m8, m9, m10, m11, .int 0, m13, m14, m15, m16, m17, m18, m19, m20, m21, m22, m23, m24, m25, m26, m27, m28, m29, m30])) := by rw [e_3]; exact mp_us _ _ _
  have hfr : ∀ b, S b ≠ none → b ≠ o → S1 b = S b := fun b h9 k0 => by rw [e_3]; exact (mp_un k0).trans (hfr b h9 k0)
  refine lv_aload_n hx hb d_M_left_16 rfl (lv_at hl 0 rfl) ?_
  refine mp_get (C := R_M) (T := F_M) (N := 31) (v := .int 0) hx hb hg i_M hown hK.va hI h_o rfl 12 (by decide) (hg _ q_816) (fun _ h9 => h9) rfl d_M_left_17 ?_
  refine lv_if_ne (tgt := 25) hx hb d_M_left_20 (by decide) (fun h9 => absurd h9 (by decide)) (fun _ => ?_)
  refine lv_iconst (v := nI 0) hx hb d_M_left_23 (by decide) ?_
  refine mp_iret hx hb hr hlocks hI (by decide) (by decide) ?_ d_M_left_24
  exact ⟨h_o, hfr⟩
set_option maxHeartbeats 4000000 in
set_option maxRecDepth 100000 in
/-- nothing is known -/
theorem c_M_atU (l : Launch) (D : mp_G) (g : Nat → ClassId) (S : mp_M) (sz : Nat) (o : Nat) (m0 m1 m2 m4 m5 m6 m7 m8 m9 m10 m11 m13 m14 m15 m16 m17 m18 m19 m20 m21 m22 m23 m24 m25 m26 m27 m28 m29 m30 : Value) (th : Int32) (z k : Int32) (h_o : S o = some (2000, .inr (10, [m0, m1, m2, .int th, m4, m5, m6, m7, m8, m9, m10, m11, .int 0, m13, m14, m15, m16, m17, m18, m19, m20, m21, m22, m23, m24, m25, m26, m27, m28, m29, m30])))  : Met l y_M_at w_M_at ({ frames := 0, cells := 0, slots := 0, locals := 0 }) (va_Pc [.ref o, .int z, .int k] (mp_B0 D classes (tys g) S sz)) (va_Qi (fun (r : Int32) (S1 : mp_M) => S1 o = some (2000, .inr (10, [m0, m1, m2, .int (nI 1), m4, m5, m6, m7, m8, m9, m10, m11, .int 0, m13, m14, m15, m16, m17, m18, m19, m20, m21, m22, m23, m24, m25, m26, m27, m28, m29, m30])) ∧ (∀ b, S b ≠ none → b ≠ o → S1 b = S b)) (mp_B1 D classes S sz) (mp_A S sz)) 0 0 (mp_A S sz) := by
  refine Met.ofW (cc := b_M_at) (maxL := 3) (ret := (some .int)) (by decide) rfl ?_
  intro p e s m args below meth c s₁ B hml hv
  obtain ⟨rfl, hsz, hH, hK⟩ := hv
  have hx := B.exec
  have hb := B.bytes
  have hr := B.returns
  have hts := atoms_spec (ws := w_M_at) B.pre
  have hg : ∀ w ∈ gw, w.before _ s = true := fun w h => hts w (List.mem_cons_of_mem _ h)
  have hown : s.vm.findClass R_M = some m.cls := findClass_of_methodNamed B.named
  have hlocks := B.notSynchronized
  subst hsz
  have hI := mp_I.start hH
  have hl := lv_entry ([.ref o, .int z, .int k]) (n := 3) (Nat.le_of_ble_eq_true rfl)
  rw [lg_entry_eq]
  generalize (lg_sl ([.ref o, .int z, .int k]) ++ List.replicate (3 - (lg_sl ([.ref o, .int z, .int k])).length) Slot.unset).toArray = ls at hl ⊢
  have hl : lv_has ls 3 [(0, .ref o), (1, .int z), (2, .int k)] := hl
  have hfr : ∀ b, S b ≠ none → b ≠ o → S b = S b := fun _ _ _ => rfl
  refine lv_aload_n hx hb d_M_at_0 rfl (lv_at hl 0 rfl) ?_
  refine lv_aload_n hx hb d_M_at_1 rfl (lv_at hl 0 rfl) ?_
  refine mp_get (C := R_M) (T := F_M) (N := 31) (v := .int 0) hx hb hg i_M hown hK.va hI h_o rfl 12 (by decide) (hg _ q_816) (fun _ h9 => h9) rfl d_M_at_2 ?_
  refine lv_if_ne (tgt := 12) hx hb d_M_at_5 (by decide) (fun h9 => absurd h9 (by decide)) (fun _ => ?_)
  refine lv_iconst (v := nI 1) hx hb d_M_at_8 (by decide) ?_
  refine lv_goto (tgt := 37) hx hb d_M_at_9 (by decide) ?_
  refine mp_put (C := R_M) (T := F_M) (N := 31) (v := .int (nI 1)) (ty := .int) hx hb hg i_M t_M t_M_ok n_M hown hK.va hI h_o rfl 3 (by decide) (hg _ q_807) (fun _ h9 => h9) rfl (by decide +kernel) (rfl) rfl (Nat.le_of_ble_eq_true rfl) d_M_at_37 (fun S1 H2 locs e_3 hI => ?_)
  have e_3 : S1 = va_up S o (some (2000, .inr (10, [m0, m1, m2, .int (nI 1), m4, m5, m6, m7, m8, m9, m10, m11, .int 0, m13, m14, m15, m16, m17, m18, m19, m20, m21, m22, m23, m24, m25, m26, m27, m28, m29, m30]))) := e_3
  have h_o : S1 o = some (2000, .inr (10, [m0, m1, m2, .int (nI 1), m4, m5, m6, m7, m8, m9, m10, m11, .int 0, m13, m14, m15, m16, m17, m18, m19, m20, m21, m22, m23, m24, m25, m26, m27, m28, m29, m30])) := by rw [e_3]; exact mp_us _ _ _
  have hfr : ∀ b, S b ≠ none → b ≠ o → S1 b = S b := fun b h9 k0 => by rw [e_3]; exact (mp_un k0).trans (hfr b h9 k0)
  refine lv_aload_n hx hb d_M_at_40 rfl (lv_at hl 0 rfl) ?_
  refine mp_get (C := R_M) (T := F_M) (N := 31) (v := .int (nI 1)) hx hb hg i_M hown hK.va hI h_o rfl 3 (by decide) (hg _ q_807) (fun _ h9 => h9) rfl d_M_at_41 ?_
  refine lv_if_eq (tgt := 51) hx hb d_M_at_44 (by decide) (fun h9 => absurd h9 (by decide)) (fun _ => ?_)
  refine lv_iconst (v := nI 0) hx hb d_M_at_47 (by decide) ?_
  refine lv_goto (tgt := 61) hx hb d_M_at_48 (by decide) ?_
  refine mp_iret hx hb hr hlocks hI (by decide) (by decide) ?_ d_M_at_61
  exact ⟨h_o, hfr⟩
set_option maxHeartbeats 4000000 in
set_option maxRecDepth 100000 in
/-- nothing is known -/
theorem c_M_multiplicityU (l : Launch) (D : mp_G) (g : Nat → ClassId) (S : mp_M) (sz : Nat) (o : Nat) (m0 m1 m2 m4 m5 m6 m7 m8 m9 m10 m11 m13 m14 m15 m16 m17 m18 m19 m20 m21 m22 m23 m24 m25 m26 m27 m28 m29 m30 : Value) (th : Int32) (z : Int32) (h_o : S o = some (2000, .inr (10, [m0, m1, m2, .int th, m4, m5, m6, m7, m8, m9, m10, m11, .int 0, m13, m14, m15, m16, m17, m18, m19, m20, m21, m22, m23, m24, m25, m26, m27, m28, m29, m30])))  : Met l y_M_multiplicity w_M_multiplicity ({ frames := 0, cells := 0, slots := 0, locals := 0 }) (va_Pc [.ref o, .int z] (mp_B0 D classes (tys g) S sz)) (va_Qi (fun (r : Int32) (S1 : mp_M) => S1 o = some (2000, .inr (10, [m0, m1, m2, .int (nI 1), m4, m5, m6, m7, m8, m9, m10, m11, .int 0, m13, m14, m15, m16, m17, m18, m19, m20, m21, m22, m23, m24, m25, m26, m27, m28, m29, m30])) ∧ (∀ b, S b ≠ none → b ≠ o → S1 b = S b)) (mp_B1 D classes S sz) (mp_A S sz)) 0 0 (mp_A S sz) := by
  refine Met.ofW (cc := b_M_multiplicity) (maxL := 2) (ret := (some .int)) (by decide) rfl ?_
  intro p e s m args below meth c s₁ B hml hv
  obtain ⟨rfl, hsz, hH, hK⟩ := hv
  have hx := B.exec
  have hb := B.bytes
  have hr := B.returns
  have hts := atoms_spec (ws := w_M_multiplicity) B.pre
  have hg : ∀ w ∈ gw, w.before _ s = true := fun w h => hts w (List.mem_cons_of_mem _ h)
  have hown : s.vm.findClass R_M = some m.cls := findClass_of_methodNamed B.named
  have hlocks := B.notSynchronized
  subst hsz
  have hI := mp_I.start hH
  have hl := lv_entry ([.ref o, .int z]) (n := 2) (Nat.le_of_ble_eq_true rfl)
  rw [lg_entry_eq]
  generalize (lg_sl ([.ref o, .int z]) ++ List.replicate (2 - (lg_sl ([.ref o, .int z])).length) Slot.unset).toArray = ls at hl ⊢
  have hl : lv_has ls 2 [(0, .ref o), (1, .int z)] := hl
  have hfr : ∀ b, S b ≠ none → b ≠ o → S b = S b := fun _ _ _ => rfl
  refine lv_aload_n hx hb d_M_multiplicity_0 rfl (lv_at hl 0 rfl) ?_
  refine lv_aload_n hx hb d_M_multiplicity_1 rfl (lv_at hl 0 rfl) ?_
  refine mp_get (C := R_M) (T := F_M) (N := 31) (v := .int 0) hx hb hg i_M hown hK.va hI h_o rfl 12 (by decide) (hg _ q_816) (fun _ h9 => h9) rfl d_M_multiplicity_2 ?_
  refine lv_if_ne (tgt := 12) hx hb d_M_multiplicity_5 (by decide) (fun h9 => absurd h9 (by decide)) (fun _ => ?_)
  refine lv_iconst (v := nI 1) hx hb d_M_multiplicity_8 (by decide) ?_
  refine lv_goto (tgt := 25) hx hb d_M_multiplicity_9 (by decide) ?_
  refine mp_put (C := R_M) (T := F_M) (N := 31) (v := .int (nI 1)) (ty := .int) hx hb hg i_M t_M t_M_ok n_M hown hK.va hI h_o rfl 3 (by decide) (hg _ q_807) (fun _ h9 => h9) rfl (by decide +kernel) (rfl) rfl (Nat.le_of_ble_eq_true rfl) d_M_multiplicity_25 (fun S1 H2 locs e_3 hI => ?_)
  have e_3 : S1 = va_up S o (some (2000, .inr (10, [m0, m1, m2, .int (nI 1), m4, m5, m6, m7, m8, m9, m10, m11, .int 0, m13, m14, m15, m16, m17, m18, m19, m20, m21, m22, m23, m24, m25, m26, m27, m28, m29, m30]))) := e_3
  have h_o : S1 o = some (2000, .inr (10, [m0, m1, m2, .int (nI 1), m4, m5, m6, m7, m8, m9, m10, m11, .int 0, m13, m14, m15, m16, m17, m18, m19, m20, m21, m22, m23, m24, m25, m26, m27, m28, m29, m30])) := by rw [e_3]; exact mp_us _ _ _
  have hfr : ∀ b, S b ≠ none → b ≠ o → S1 b = S b := fun b h9 k0 => by rw [e_3]; exact (mp_un k0).trans (hfr b h9 k0)
  refine lv_aload_n hx hb d_M_multiplicity_28 rfl (lv_at hl 0 rfl) ?_
  refine mp_get (C := R_M) (T := F_M) (N := 31) (v := .int (nI 1)) hx hb hg i_M hown hK.va hI h_o rfl 3 (by decide) (hg _ q_807) (fun _ h9 => h9) rfl d_M_multiplicity_29 ?_
  refine lv_if_eq (tgt := 39) hx hb d_M_multiplicity_32 (by decide) (fun h9 => absurd h9 (by decide)) (fun _ => ?_)
  refine lv_iconst (v := nI 0) hx hb d_M_multiplicity_35 (by decide) ?_
  refine lv_goto (tgt := 45) hx hb d_M_multiplicity_36 (by decide) ?_
  refine mp_iret hx hb hr hlocks hI (by decide) (by decide) ?_ d_M_multiplicity_45
  exact ⟨h_o, hfr⟩
set_option maxHeartbeats 4000000 in
set_option maxRecDepth 100000 in
/-- nothing is known -/
theorem c_M_minimalU (l : Launch) (D : mp_G) (g : Nat → ClassId) (S : mp_M) (sz : Nat) (o : Nat) (m0 m1 m2 m4 m5 m6 m7 m8 m9 m10 m11 m13 m14 m15 m16 m17 m18 m19 m20 m21 m22 m23 m24 m25 m26 m27 m28 m29 m30 : Value) (th : Int32) (k z : Int32) (h_o : S o = some (2000, .inr (10, [m0, m1, m2, .int th, m4, m5, m6, m7, m8, m9, m10, m11, .int 0, m13, m14, m15, m16, m17, m18, m19, m20, m21, m22, m23, m24, m25, m26, m27, m28, m29, m30])))  : Met l y_M_minimal w_M_minimal ({ frames := 0, cells := 0, slots := 0, locals := 0 }) (va_Pc [.ref o, .int k, .int z] (mp_B0 D classes (tys g) S sz)) (va_Qi (fun (r : Int32) (S1 : mp_M) => S1 o = some (2000, .inr (10, [m0, m1, m2, .int (nI 1), m4, m5, m6, m7, m8, m9, m10, m11, .int 0, m13, m14, m15, m16, m17, m18, m19, m20, m21, m22, m23, m24, m25, m26, m27, m28, m29, m30])) ∧ (∀ b, S b ≠ none → b ≠ o → S1 b = S b)) (mp_B1 D classes S sz) (mp_A S sz)) 0 0 (mp_A S sz) := by
  refine Met.ofW (cc := b_M_minimal) (maxL := 3) (ret := (some .int)) (by decide) rfl ?_
  intro p e s m args below meth c s₁ B hml hv
  obtain ⟨rfl, hsz, hH, hK⟩ := hv
  have hx := B.exec
  have hb := B.bytes
  have hr := B.returns
  have hts := atoms_spec (ws := w_M_minimal) B.pre
  have hg : ∀ w ∈ gw, w.before _ s = true := fun w h => hts w (List.mem_cons_of_mem _ h)
  have hown : s.vm.findClass R_M = some m.cls := findClass_of_methodNamed B.named
  have hlocks := B.notSynchronized
  subst hsz
  have hI := mp_I.start hH
  have hl := lv_entry ([.ref o, .int k, .int z]) (n := 3) (Nat.le_of_ble_eq_true rfl)
  rw [lg_entry_eq]
  generalize (lg_sl ([.ref o, .int k, .int z]) ++ List.replicate (3 - (lg_sl ([.ref o, .int k, .int z])).length) Slot.unset).toArray = ls at hl ⊢
  have hl : lv_has ls 3 [(0, .ref o), (1, .int k), (2, .int z)] := hl
  have hfr : ∀ b, S b ≠ none → b ≠ o → S b = S b := fun _ _ _ => rfl
  refine lv_aload_n hx hb d_M_minimal_0 rfl (lv_at hl 0 rfl) ?_
  refine lv_aload_n hx hb d_M_minimal_1 rfl (lv_at hl 0 rfl) ?_
  refine mp_get (C := R_M) (T := F_M) (N := 31) (v := .int 0) hx hb hg i_M hown hK.va hI h_o rfl 12 (by decide) (hg _ q_816) (fun _ h9 => h9) rfl d_M_minimal_2 ?_
  refine lv_if_ne (tgt := 12) hx hb d_M_minimal_5 (by decide) (fun h9 => absurd h9 (by decide)) (fun _ => ?_)
  refine lv_iconst (v := nI 1) hx hb d_M_minimal_8 (by decide) ?_
  refine lv_goto (tgt := 25) hx hb d_M_minimal_9 (by decide) ?_
  refine mp_put (C := R_M) (T := F_M) (N := 31) (v := .int (nI 1)) (ty := .int) hx hb hg i_M t_M t_M_ok n_M hown hK.va hI h_o rfl 3 (by decide) (hg _ q_807) (fun _ h9 => h9) rfl (by decide +kernel) (rfl) rfl (Nat.le_of_ble_eq_true rfl) d_M_minimal_25 (fun S1 H2 locs e_3 hI => ?_)
  have e_3 : S1 = va_up S o (some (2000, .inr (10, [m0, m1, m2, .int (nI 1), m4, m5, m6, m7, m8, m9, m10, m11, .int 0, m13, m14, m15, m16, m17, m18, m19, m20, m21, m22, m23, m24, m25, m26, m27, m28, m29, m30]))) := e_3
  have h_o : S1 o = some (2000, .inr (10, [m0, m1, m2, .int (nI 1), m4, m5, m6, m7, m8, m9, m10, m11, .int 0, m13, m14, m15, m16, m17, m18, m19, m20, m21, m22, m23, m24, m25, m26, m27, m28, m29, m30])) := by rw [e_3]; exact mp_us _ _ _
  have hfr : ∀ b, S b ≠ none → b ≠ o → S1 b = S b := fun b h9 k0 => by rw [e_3]; exact (mp_un k0).trans (hfr b h9 k0)
  refine lv_aload_n hx hb d_M_minimal_28 rfl (lv_at hl 0 rfl) ?_
  refine mp_get (C := R_M) (T := F_M) (N := 31) (v := .int (nI 1)) hx hb hg i_M hown hK.va hI h_o rfl 3 (by decide) (hg _ q_807) (fun _ h9 => h9) rfl d_M_minimal_29 ?_
  refine lv_if_eq (tgt := 37) hx hb d_M_minimal_32 (by decide) (fun h9 => absurd h9 (by decide)) (fun _ => ?_)
  refine lv_iconst (v := nI 0) hx hb d_M_minimal_35 (by decide) ?_
  refine mp_iret hx hb hr hlocks hI (by decide) (by decide) ?_ d_M_minimal_36
  exact ⟨h_o, hfr⟩
set_option maxHeartbeats 4000000 in
set_option maxRecDepth 100000 in
/-- nothing is known -/
theorem c_M_valueU (l : Launch) (D : mp_G) (g : Nat → ClassId) (S : mp_M) (sz : Nat) (o : Nat) (m0 m1 m2 m4 m5 m6 m7 m8 m9 m10 m11 m13 m14 m15 m16 m17 m18 m19 m20 m21 m22 m23 m24 m25 m26 m27 m28 m29 m30 : Value) (th : Int32) (k z : Int32) (h_o : S o = some (2000, .inr (10, [m0, m1, m2, .int th, m4, m5, m6, m7, m8, m9, m10, m11, .int 0, m13, m14, m15, m16, m17, m18, m19, m20, m21, m22, m23, m24, m25, m26, m27, m28, m29, m30])))  : Met l y_M_value w_M_value ({ frames := 0, cells := 0, slots := 0, locals := 0 }) (va_Pc [.ref o, .int k, .int z] (mp_B0 D classes (tys g) S sz)) (va_Qi (fun (r : Int32) (S1 : mp_M) => S1 o = some (2000, .inr (10, [m0, m1, m2, .int (nI 1), m4, m5, m6, m7, m8, m9, m10, m11, .int 0, m13, m14, m15, m16, m17, m18, m19, m20, m21, m22, m23, m24, m25, m26, m27, m28, m29, m30])) ∧ (∀ b, S b ≠ none → b ≠ o → S1 b = S b)) (mp_B1 D classes S sz) (mp_A S sz)) 0 0 (mp_A S sz) := by
  refine Met.ofW (cc := b_M_value) (maxL := 6) (ret := (some .int)) (by decide) rfl ?_
  intro p e s m args below meth c s₁ B hml hv
  obtain ⟨rfl, hsz, hH, hK⟩ := hv
  have hx := B.exec
  have hb := B.bytes
  have hr := B.returns
  have hts := atoms_spec (ws := w_M_value) B.pre
  have hg : ∀ w ∈ gw, w.before _ s = true := fun w h => hts w (List.mem_cons_of_mem _ h)
  have hown : s.vm.findClass R_M = some m.cls := findClass_of_methodNamed B.named
  have hlocks := B.notSynchronized
  subst hsz
  have hI := mp_I.start hH
  have hl := lv_entry ([.ref o, .int k, .int z]) (n := 6) (Nat.le_of_ble_eq_true rfl)
  rw [lg_entry_eq]
  generalize (lg_sl ([.ref o, .int k, .int z]) ++ List.replicate (6 - (lg_sl ([.ref o, .int k, .int z])).length) Slot.unset).toArray = ls at hl ⊢
  have hl : lv_has ls 6 [(0, .ref o), (1, .int k), (2, .int z)] := hl
  have hfr : ∀ b, S b ≠ none → b ≠ o → S b = S b := fun _ _ _ => rfl
  refine lv_aload_n hx hb d_M_value_0 rfl (lv_at hl 0 rfl) ?_
  refine lv_aload_n hx hb d_M_value_1 rfl (lv_at hl 0 rfl) ?_
  refine mp_get (C := R_M) (T := F_M) (N := 31) (v := .int 0) hx hb hg i_M hown hK.va hI h_o rfl 12 (by decide) (hg _ q_816) (fun _ h9 => h9) rfl d_M_value_2 ?_
  refine lv_if_ne (tgt := 12) hx hb d_M_value_5 (by decide) (fun h9 => absurd h9 (by decide)) (fun _ => ?_)
  refine lv_iconst (v := nI 1) hx hb d_M_value_8 (by decide) ?_
  refine lv_goto (tgt := 32) hx hb d_M_value_9 (by decide) ?_
  refine mp_put (C := R_M) (T := F_M) (N := 31) (v := .int (nI 1)) (ty := .int) hx hb hg i_M t_M t_M_ok n_M hown hK.va hI h_o rfl 3 (by decide) (hg _ q_807) (fun _ h9 => h9) rfl (by decide +kernel) (rfl) rfl (Nat.le_of_ble_eq_true rfl) d_M_value_32 (fun S1 H2 locs e_3 hI => ?_)
  have e_3 : S1 = va_up S o (some (2000, .inr (10, [m0, m1, m2, .int (nI 1), m4, m5, m6, m7, m8, m9, m10, m11, .int 0, m13, m14, m15, m16, m17, m18, m19, m20, m21, m22, m23, m24, m25, m26, m27, m28, m29, m30]))) := e_3
  have h_o : S1 o = some (2000, .inr (10, [m0, m1, m2, .int (nI 1), m4, m5, m6, m7, m8, m9, m10, m11, .int 0, m13, m14, m15, m16, m17, m18, m19, m20, m21, m22, m23, m24, m25, m26, m27, m28, m29, m30])) := by rw [e_3]; exact mp_us _ _ _
  have hfr : ∀ b, S b ≠ none → b ≠ o → S1 b = S b := fun b h9 k0 => by rw [e_3]; exact (mp_un k0).trans (hfr b h9 k0)
  refine lv_aload_n hx hb d_M_value_35 rfl (lv_at hl 0 rfl) ?_
  refine mp_get (C := R_M) (T := F_M) (N := 31) (v := .int (nI 1)) hx hb hg i_M hown hK.va hI h_o rfl 3 (by decide) (hg _ q_807) (fun _ h9 => h9) rfl d_M_value_36 ?_
  refine lv_if_eq (tgt := 44) hx hb d_M_value_39 (by decide) (fun h9 => absurd h9 (by decide)) (fun _ => ?_)
  refine lv_iconst (v := nI 0) hx hb d_M_value_42 (by decide) ?_
  refine mp_iret hx hb hr hlocks hI (by decide) (by decide) ?_ d_M_value_43
  exact ⟨h_o, hfr⟩
set_option maxHeartbeats 4000000 in
set_option maxRecDepth 100000 in
/-- count -/
theorem c_M_count (l : Launch) (D : mp_G) (g : Nat → ClassId) (S : mp_M) (sz : Nat) (o : Nat) (m4 m5 m6 m7 m8 m9 m10 m11 m12 m13 m14 m15 m16 m17 m18 m19 m20 m21 m22 m23 m24 m25 m26 m27 m28 m29 m30 : Value) (n gv tk th x : Int32) (h_o : S o = some (2000, .inr (10, [.int n, .int gv, .int tk, .int th, m4, m5, m6, m7, m8, m9, m10, m11, m12, m13, m14, m15, m16, m17, m18, m19, m20, m21, m22, m23, m24, m25, m26, m27, m28, m29, m30])))  : Met l y_M_count w_M_count ({ frames := 0, cells := 0, slots := 0, locals := 0 }) (va_Pc [.ref o, .int x] (mp_B0 D classes (tys g) S sz)) (va_Qi (fun (r : Int32) (S1 : mp_M) => r = (if x = 0 then gv else if x = 1 then tk else if x = 2 then n else -1) ∧ S1 o = some (2000, .inr (10, [.int n, .int gv, .int tk, .int (nI 0), m4, m5, m6, m7, m8, m9, m10, m11, m12, m13, m14, m15, m16, m17, m18, m19, m20, m21, m22, m23, m24, m25, m26, m27, m28, m29, m30])) ∧ (∀ b, S b ≠ none → b ≠ o → S1 b = S b)) (mp_B1 D classes S sz) (mp_A S sz)) 0 0 (mp_A S sz) := by
  refine Met.ofW (cc := b_M_count) (maxL := 2) (ret := (some .int)) (by decide) rfl ?_
  intro p e s m args below meth c s₁ B hml hv
  obtain ⟨rfl, hsz, hH, hK⟩ := hv
  have hx := B.exec
  have hb := B.bytes
  have hr := B.returns
  have hts := atoms_spec (ws := w_M_count) B.pre
  have hg : ∀ w ∈ gw, w.before _ s = true := fun w h => hts w (List.mem_cons_of_mem _ h)
  have hown : s.vm.findClass R_M = some m.cls := findClass_of_methodNamed B.named
  have hlocks := B.notSynchronized
  subst hsz
  have hI := mp_I.start hH
  have hl := lv_entry ([.ref o, .int x]) (n := 2) (Nat.le_of_ble_eq_true rfl)
  rw [lg_entry_eq]
  generalize (lg_sl ([.ref o, .int x]) ++ List.replicate (2 - (lg_sl ([.ref o, .int x])).length) Slot.unset).toArray = ls at hl ⊢
  have hl : lv_has ls 2 [(0, .ref o), (1, .int x)] := hl
  have hfr : ∀ b, S b ≠ none → b ≠ o → S b = S b := fun _ _ _ => rfl
  refine lv_aload_n hx hb d_M_count_0 rfl (lv_at hl 0 rfl) ?_
  refine lv_iconst (v := nI 0) hx hb d_M_count_1 (by decide) ?_
  refine mp_put (C := R_M) (T := F_M) (N := 31) (v := .int (nI 0)) (ty := .int) hx hb hg i_M t_M t_M_ok n_M hown hK.va hI h_o rfl 3 (by decide) (hg _ q_807) (fun _ h9 => h9) rfl (by decide +kernel) (rfl) rfl (Nat.le_of_ble_eq_true rfl) d_M_count_2 (fun S1 H2 locs e_3 hI => ?_)
  have e_3 : S1 = va_up S o (some (2000, .inr (10, [.int n, .int gv, .int tk, .int (nI 0), m4, m5, m6, m7, m8, m9, m10, m11, m12, m13, m14, m15, m16, m17, m18, m19, m20, m21, m22, m23, m24, m25, m26, m27, m28, m29, m30]))) := e_3
  have h_o : S1 o = some (2000, .inr (10, [.int n, .int gv, .int tk, .int (nI 0), m4, m5, m6, m7, m8, m9, m10, m11, m12, m13, m14, m15, m16, m17, m18, m19, m20, m21, m22, m23, m24, m25, m26, m27, m28, m29, m30])) := by rw [e_3]; exact mp_us _ _ _
  have hfr : ∀ b, S b ≠ none → b ≠ o → S1 b = S b := fun b h9 k0 => by rw [e_3]; exact (mp_un k0).trans (hfr b h9 k0)
  refine lv_iload_n hx hb d_M_count_5 rfl (lv_at hl 1 rfl) ?_
  refine lv_if_ne (tgt := 16) hx hb d_M_count_6 (by decide) (fun c0 => ?_) (fun c0 => ?_)
  · refine lv_iload_n hx hb d_M_count_16 rfl (lv_at hl 1 rfl) ?_
    refine lv_iconst (v := nI 1) hx hb d_M_count_17 (by decide) ?_
    refine lv_icmp_ne (tgt := 28) hx hb d_M_count_18 (by decide) (fun c1 => ?_) (fun c1 => ?_)
    · refine lv_iload_n hx hb d_M_count_28 rfl (lv_at hl 1 rfl) ?_
      refine lv_iconst (v := nI 2) hx hb d_M_count_29 (by decide) ?_
      refine lv_icmp_ne (tgt := 40) hx hb d_M_count_30 (by decide) (fun c2 => ?_) (fun c2 => ?_)
      · refine lv_iconst (v := (-1)) hx hb d_M_count_40 (by decide) ?_
        refine mp_iret hx hb hr hlocks hI (by decide) (by decide) ?_ d_M_count_41
        exact ⟨by rw [if_neg c0, if_neg (show ¬ x = 1 from c1), if_neg (show ¬ x = 2 from c2)], h_o, hfr⟩
      · refine lv_aload_n hx hb d_M_count_33 rfl (lv_at hl 0 rfl) ?_
        refine mp_get (C := R_M) (T := F_M) (N := 31) (v := .int n) hx hb hg i_M hown hK.va hI h_o rfl 0 (by decide) (hg _ q_804) (fun _ h9 => h9) rfl d_M_count_34 ?_
        refine lv_goto (tgt := 41) hx hb d_M_count_37 (by decide) ?_
        refine mp_iret hx hb hr hlocks hI (by decide) (by decide) ?_ d_M_count_41
        exact ⟨by rw [if_neg c0, if_neg (show ¬ x = 1 from c1), if_pos (show x = 2 from c2)], h_o, hfr⟩
    · refine lv_aload_n hx hb d_M_count_21 rfl (lv_at hl 0 rfl) ?_
      refine mp_get (C := R_M) (T := F_M) (N := 31) (v := .int tk) hx hb hg i_M hown hK.va hI h_o rfl 2 (by decide) (hg _ q_806) (fun _ h9 => h9) rfl d_M_count_22 ?_
      refine lv_goto (tgt := 41) hx hb d_M_count_25 (by decide) ?_
      refine mp_iret hx hb hr hlocks hI (by decide) (by decide) ?_ d_M_count_41
      exact ⟨by rw [if_neg c0, if_pos (show x = 1 from c1)], h_o, hfr⟩
  · refine lv_aload_n hx hb d_M_count_9 rfl (lv_at hl 0 rfl) ?_
    refine mp_get (C := R_M) (T := F_M) (N := 31) (v := .int gv) hx hb hg i_M hown hK.va hI h_o rfl 1 (by decide) (hg _ q_805) (fun _ h9 => h9) rfl d_M_count_10 ?_
    refine lv_goto (tgt := 41) hx hb d_M_count_13 (by decide) ?_
    refine mp_iret hx hb hr hlocks hI (by decide) (by decide) ?_ d_M_count_41
    exact ⟨by rw [if_pos c0], h_o, hfr⟩
set_option maxHeartbeats 4000000 in
set_option maxRecDepth 100000 in
/-- free, run was not asked -/
theorem c_M_freeU (l : Launch) (D : mp_G) (g : Nat → ClassId) (S : mp_M) (sz : Nat) (o n : Nat) (m1 m2 m4 m5 m6 m7 m8 m9 m10 m11 m12 m14 m15 m16 m17 m18 m19 m20 m21 m22 m23 m24 m25 m26 m27 m28 m29 m30 : Value) (th x : Int32) (h_o : S o = some (2000, .inr (10, [.int (nI n), m1, m2, .int th, m4, m5, m6, m7, m8, m9, m10, m11, m12, .int 0, m14, m15, m16, m17, m18, m19, m20, m21, m22, m23, m24, m25, m26, m27, m28, m29, m30]))) (hn : n ≤ 3) : Met l y_M_free w_M_free ({ frames := 0, cells := 0, slots := 0, locals := 0 }) (va_Pc [.ref o, .int x] (mp_B0 D classes (tys g) S sz)) (va_Qi (fun (r : Int32) (S1 : mp_M) => r = -1 ∧ S1 o = some (2000, .inr (10, [.int (nI n), m1, m2, .int (nI 0), m4, m5, m6, m7, m8, m9, m10, m11, m12, .int 0, m14, m15, m16, m17, m18, m19, m20, m21, m22, m23, m24, m25, m26, m27, m28, m29, m30])) ∧ (∀ b, S b ≠ none → b ≠ o → S1 b = S b)) (mp_B1 D classes S sz) (mp_A S sz)) 0 0 (mp_A S sz) := by
  refine Met.ofW (cc := b_M_free) (maxL := 4) (ret := (some .int)) (by decide) rfl ?_
  intro p e s m args below meth c s₁ B hml hv
  obtain ⟨rfl, hsz, hH, hK⟩ := hv
  have hx := B.exec
  have hb := B.bytes
  have hr := B.returns
  have hts := atoms_spec (ws := w_M_free) B.pre
  have hg : ∀ w ∈ gw, w.before _ s = true := fun w h => hts w (List.mem_cons_of_mem _ h)
  have hown : s.vm.findClass R_M = some m.cls := findClass_of_methodNamed B.named
  have hlocks := B.notSynchronized
  subst hsz
  have hI := mp_I.start hH
  have hl := lv_entry ([.ref o, .int x]) (n := 4) (Nat.le_of_ble_eq_true rfl)
  rw [lg_entry_eq]
  generalize (lg_sl ([.ref o, .int x]) ++ List.replicate (4 - (lg_sl ([.ref o, .int x])).length) Slot.unset).toArray = ls at hl ⊢
  have hl : lv_has ls 4 [(0, .ref o), (1, .int x)] := hl
  have hfr : ∀ b, S b ≠ none → b ≠ o → S b = S b := fun _ _ _ => rfl
  refine lv_aload_n hx hb d_M_free_0 rfl (lv_at hl 0 rfl) ?_
  refine lv_iconst (v := nI 0) hx hb d_M_free_1 (by decide) ?_
  refine mp_put (C := R_M) (T := F_M) (N := 31) (v := .int (nI 0)) (ty := .int) hx hb hg i_M t_M t_M_ok n_M hown hK.va hI h_o rfl 3 (by decide) (hg _ q_807) (fun _ h9 => h9) rfl (by decide +kernel) (rfl) rfl (Nat.le_of_ble_eq_true rfl) d_M_free_2 (fun S1 H2 locs e_3 hI => ?_)
  have e_3 : S1 = va_up S o (some (2000, .inr (10, [.int (nI n), m1, m2, .int (nI 0), m4, m5, m6, m7, m8, m9, m10, m11, m12, .int 0, m14, m15, m16, m17, m18, m19, m20, m21, m22, m23, m24, m25, m26, m27, m28, m29, m30]))) := e_3
  have h_o : S1 o = some (2000, .inr (10, [.int (nI n), m1, m2, .int (nI 0), m4, m5, m6, m7, m8, m9, m10, m11, m12, .int 0, m14, m15, m16, m17, m18, m19, m20, m21, m22, m23, m24, m25, m26, m27, m28, m29, m30])) := by rw [e_3]; exact mp_us _ _ _
  have hfr : ∀ b, S b ≠ none → b ≠ o → S1 b = S b := fun b h9 k0 => by rw [e_3]; exact (mp_un k0).trans (hfr b h9 k0)
  refine lv_iconst (v := nI 0) hx hb d_M_free_5 (by decide) ?_
  refine lv_istore_n (lv' := [(2, .int (nI 0)), (0, .ref o), (1, .int x)]) hx hb d_M_free_6 rfl hl (by decide) rfl (fun ls hl => ?_)
  refine lv_iconst (v := nI 0) hx hb d_M_free_7 (by decide) ?_
  refine lv_istore_n (lv' := [(3, .int (nI 0)), (2, .int (nI 0)), (0, .ref o), (1, .int x)]) hx hb d_M_free_8 rfl hl (by decide) rfl (fun ls hl => ?_)
  rcases (show n = 0 ∨ n = 1 ∨ n = 2 ∨ n = 3 by omega) with rfl | rfl | rfl | rfl
  · refine lv_iload_n hx hb d_M_free_9 rfl (lv_at hl 0 rfl) ?_
    refine lv_aload_n hx hb d_M_free_10 rfl (lv_at hl 2 rfl) ?_
    refine mp_get (C := R_M) (T := F_M) (N := 31) (v := .int (nI 0)) hx hb hg i_M hown hK.va hI h_o rfl 0 (by decide) (hg _ q_804) (fun _ h9 => h9) rfl d_M_free_11 ?_
    refine lv_icmp_ge (tgt := 49) hx hb d_M_free_14 (by decide) (fun _ => ?_) (fun h9 => absurd (by decide) h9)
    refine lv_iconst (v := (-1)) hx hb d_M_free_49 (by decide) ?_
    refine mp_iret hx hb hr hlocks hI (by decide) (by decide) ?_ d_M_free_50
    exact ⟨rfl, h_o, hfr⟩
  · refine lv_iload_n hx hb d_M_free_9 rfl (lv_at hl 0 rfl) ?_
    refine lv_aload_n hx hb d_M_free_10 rfl (lv_at hl 2 rfl) ?_
    refine mp_get (C := R_M) (T := F_M) (N := 31) (v := .int (nI 1)) hx hb hg i_M hown hK.va hI h_o rfl 0 (by decide) (hg _ q_804) (fun _ h9 => h9) rfl d_M_free_11 ?_
    refine lv_icmp_ge (tgt := 49) hx hb d_M_free_14 (by decide) (fun h9 => absurd h9 (by decide)) (fun _ => ?_)
    refine lv_aload_n hx hb d_M_free_17 rfl (lv_at hl 2 rfl) ?_
    refine mp_get (C := R_M) (T := F_M) (N := 31) (v := .int 0) hx hb hg i_M hown hK.va hI h_o rfl 13 (by decide) (hg _ q_817) (fun _ h9 => h9) rfl d_M_free_18 ?_
    refine lv_if_eq (tgt := 49) hx hb d_M_free_21 (by decide) (fun _ => ?_) (fun h9 => absurd (by decide) h9)
    refine lv_iconst (v := (-1)) hx hb d_M_free_49 (by decide) ?_
    refine mp_iret hx hb hr hlocks hI (by decide) (by decide) ?_ d_M_free_50
    exact ⟨rfl, h_o, hfr⟩
  · refine lv_iload_n hx hb d_M_free_9 rfl (lv_at hl 0 rfl) ?_
    refine lv_aload_n hx hb d_M_free_10 rfl (lv_at hl 2 rfl) ?_
    refine mp_get (C := R_M) (T := F_M) (N := 31) (v := .int (nI 2)) hx hb hg i_M hown hK.va hI h_o rfl 0 (by decide) (hg _ q_804) (fun _ h9 => h9) rfl d_M_free_11 ?_
    refine lv_icmp_ge (tgt := 49) hx hb d_M_free_14 (by decide) (fun h9 => absurd h9 (by decide)) (fun _ => ?_)
    refine lv_aload_n hx hb d_M_free_17 rfl (lv_at hl 2 rfl) ?_
    refine mp_get (C := R_M) (T := F_M) (N := 31) (v := .int 0) hx hb hg i_M hown hK.va hI h_o rfl 13 (by decide) (hg _ q_817) (fun _ h9 => h9) rfl d_M_free_18 ?_
    refine lv_if_eq (tgt := 49) hx hb d_M_free_21 (by decide) (fun _ => ?_) (fun h9 => absurd (by decide) h9)
    refine lv_iconst (v := (-1)) hx hb d_M_free_49 (by decide) ?_
    refine mp_iret hx hb hr hlocks hI (by decide) (by decide) ?_ d_M_free_50
    exact ⟨rfl, h_o, hfr⟩
  · refine lv_iload_n hx hb d_M_free_9 rfl (lv_at hl 0 rfl) ?_
    refine lv_aload_n hx hb d_M_free_10 rfl (lv_at hl 2 rfl) ?_
    refine mp_get (C := R_M) (T := F_M) (N := 31) (v := .int (nI 3)) hx hb hg i_M hown hK.va hI h_o rfl 0 (by decide) (hg _ q_804) (fun _ h9 => h9) rfl d_M_free_11 ?_
    refine lv_icmp_ge (tgt := 49) hx hb d_M_free_14 (by decide) (fun h9 => absurd h9 (by decide)) (fun _ => ?_)
    refine lv_aload_n hx hb d_M_free_17 rfl (lv_at hl 2 rfl) ?_
    refine mp_get (C := R_M) (T := F_M) (N := 31) (v := .int 0) hx hb hg i_M hown hK.va hI h_o rfl 13 (by decide) (hg _ q_817) (fun _ h9 => h9) rfl d_M_free_18 ?_
    refine lv_if_eq (tgt := 49) hx hb d_M_free_21 (by decide) (fun _ => ?_) (fun h9 => absurd (by decide) h9)
    refine lv_iconst (v := (-1)) hx hb d_M_free_49 (by decide) ?_
    refine mp_iret hx hb hr hlocks hI (by decide) (by decide) ?_ d_M_free_50
    exact ⟨rfl, h_o, hfr⟩
/-- numbers from lo on, i of them, made 0 -/
def zr (lo i : Nat) (f : Nat → Int32) : Nat → Int32 := fun j => if lo ≤ j ∧ j < lo + i then 0 else f j
theorem zr_0 (lo : Nat) (f : Nat → Int32) : zr lo 0 f = f := by funext j; unfold zr; rw [if_neg (by omega)]
theorem zr_up (lo i : Nat) (f : Nat → Int32) : upd (zr lo i f) (lo + i) (nI 0) = zr lo (i + 1) f := by
  funext j
  unfold upd zr
  by_cases h : j = lo + i
  · rw [if_pos h, if_pos (by omega)]; rfl
  · rw [if_neg h]
    by_cases h2 : lo ≤ j ∧ j < lo + i
    · rw [if_pos h2, if_pos (by omega)]
    · rw [if_neg h2, if_neg (by omega)]
set_option maxHeartbeats 4000000 in
set_option maxRecDepth 100000 in
theorem lp_M_poly {p : Program} {l : Launch} {e : Env} {R : Room} {s : State} {m : MethodId} {args : Array Value} {below : List Frame} {meth : Method} {c : Code} {Q : State → Prop} {D : mp_G} {g : Nat → ClassId} {A : Nat → Prop} {cells slots : Nat} (hx : p.tables.exec = Jvm.exec) (hb : c.code = b_M_poly) (hml : c.maxLocals = 2) (hg : ∀ w ∈ gw, w.before args s = true) (hown : s.vm.findClass R_M = some m.cls) (hK : mp_K D classes (tys g) s) (hRf : 0 ≤ R.frames) (hRl : 0 ≤ R.locals) (hRc : cells ≤ R.cells) (hRs : slots ≤ R.slots) {B : mp_M} {o pa gv : Nat} {m0 m2 m5 m6 m7 m8 m9 m10 m11 m12 m13 m14 m15 m16 m17 m18 m19 m20 m21 m22 m23 m24 m25 m26 m27 m28 m29 m30 : Value} {pf : Nat → Int32} (hgv : gv < 40) : ∀ (k i : Nat) (S : mp_M) (H : Heap) (locs : List Loc) (ls : Array Slot), i + k = 1000 → S o = some (2000, .inr (10, [m0, .int (nI gv), m2, .int (nI 0), .ref pa, m5, m6, m7, m8, m9, m10, m11, m12, m13, m14, m15, m16, m17, m18, m19, m20, m21, m22, m23, m24, m25, m26, m27, m28, m29, m30])) → S pa = some (2001, .inl ((g 0), 40000, .inl (zr (1000 * gv) i pf))) → (∀ b, B b ≠ none → b ≠ o → b ≠ pa → S b = B b) → mp_I D classes A s.heap S H locs → lv_has ls 2 [(1, .int (nI i)), (0, .ref o)] → (∀ (S : mp_M) (H : Heap) (locs : List Loc) (ls : Array Slot), S o = some (2000, .inr (10, [m0, .int (nI gv), m2, .int (nI 0), .ref pa, m5, m6, m7, m8, m9, m10, m11, m12, m13, m14, m15, m16, m17, m18, m19, m20, m21, m22, m23, m24, m25, m26, m27, m28, m29, m30])) → S pa = some (2001, .inl ((g 0), 40000, .inl (zr (1000 * gv) 1000 pf))) → (∀ b, B b ≠ none → b ≠ o → b ≠ pa → S b = B b) → mp_I D classes A s.heap S H locs → lv_has ls 2 [(1, .int (nI 1000)), (0, .ref o)] → W p l e R s m args below meth c H locs cells slots Q (F0 m 58 ls [])) → W p l e R s m args below meth c H locs cells slots Q (F0 m 29 ls []) := by
  intro k
  induction k with
  | zero =>
    intro i S H locs ls hi h_o h_pa hfr hI hl kx
    obtain rfl : i = 1000 := by omega
    refine lv_iload_n hx hb d_M_poly_29 rfl (lv_at hl 0 rfl) ?_
    refine lv_sipush (v := nI 1000) hx hb d_M_poly_30 (by decide) ?_
    refine lv_icmp_ge (tgt := 58) hx hb d_M_poly_33 (by decide) (fun _ => ?_) (fun h9 => absurd (by decide) h9)
    exact kx S H locs ls h_o h_pa hfr hI hl
  | succ k ih =>
    intro i S H locs ls hi h_o h_pa hfr hI hl kx
    refine lv_iload_n hx hb d_M_poly_29 rfl (lv_at hl 0 rfl) ?_
    refine lv_sipush (v := nI 1000) hx hb d_M_poly_30 (by decide) ?_
    refine lv_icmp_ge (tgt := 58) hx hb d_M_poly_33 (by decide) (fun h9 => absurd h9 (by rw [nI_leI (by omega) (by omega)]; omega)) (fun _ => ?_)
    refine lv_aload_n hx hb d_M_poly_36 rfl (lv_at hl 1 rfl) ?_
    refine mp_get (C := R_M) (T := F_M) (N := 31) (v := .ref pa) hx hb hg i_M hown hK.va hI h_o rfl 4 (by decide) (hg _ q_808) (fun _ h9 => h9) rfl d_M_poly_37 ?_
    refine lv_sipush (v := nI 1000) hx hb d_M_poly_40 (by decide) ?_
    refine lv_aload_n hx hb d_M_poly_43 rfl (lv_at hl 1 rfl) ?_
    refine mp_get (C := R_M) (T := F_M) (N := 31) (v := .int (nI gv)) hx hb hg i_M hown hK.va hI h_o rfl 1 (by decide) (hg _ q_805) (fun _ h9 => h9) rfl d_M_poly_44 ?_
    refine lv_imul hx hb d_M_poly_47 ?_
    refine lv_topi (fun v1 ev1 => ?_)
    obtain rfl : v1 = nI (1000 * gv) := ev1.trans (pk_mul _ _)
    refine lv_iload_n hx hb d_M_poly_48 rfl (lv_at hl 0 rfl) ?_
    refine lv_iadd hx hb d_M_poly_49 ?_
    refine lv_topi (fun v2 ev2 => ?_)
    obtain rfl : v2 = nI ((1000 * gv) + i) := ev2.trans (nI_add _ _)
    refine lv_iconst (v := nI 0) hx hb d_M_poly_50 (by decide) ?_
    refine mp_iast hx hb hK.va hI 0 h_pa rfl (vp_in_nI (show 1000 * gv + i < 40000 by omega) (by decide)) d_M_poly_51 (fun S3 H4 locs e_5 hI => ?_)
    have e_5 : S3 = va_up S pa (some (2001, .inl ((g 0), 40000, .inl (upd (zr (1000 * gv) i pf) (nI ((1000 * gv) + i)).toNatClampNeg (nI 0))))) := e_5
    have h_o : S3 o = some (2000, .inr (10, [m0, .int (nI gv), m2, .int (nI 0), .ref pa, m5, m6, m7, m8, m9, m10, m11, m12, m13, m14, m15, m16, m17, m18, m19, m20, m21, m22, m23, m24, m25, m26, m27, m28, m29, m30])) := by rw [e_5]; exact mp_keep h_o h_pa (by decide)
    have h_pa : S3 pa = some (2001, .inl ((g 0), 40000, .inl (upd (zr (1000 * gv) i pf) (nI ((1000 * gv) + i)).toNatClampNeg (nI 0)))) := by rw [e_5]; exact mp_us _ _ _
    have hfr : ∀ b, B b ≠ none → b ≠ o → b ≠ pa → S3 b = B b := fun b h9 k0 k1 => by rw [e_5]; exact (mp_un k1).trans (hfr b h9 k0 k1)
    rw [nI_clamp (by omega), zr_up] at h_pa
    refine lv_iinc (v := nI (i + 1)) (lv' := [(1, .int (nI (i + 1))), (0, .ref o)]) hx hb d_M_poly_52 hl (k := 0) rfl (nI_1 _) (by decide) rfl (fun ls hl => ?_)
    refine lv_goto (tgt := 29) hx hb d_M_poly_55 (by decide) ?_
    exact ih (i + 1) S3 H4 locs ls (by omega) h_o h_pa hfr hI (lv_sub hl [0, 1] rfl) kx
set_option maxHeartbeats 4000000 in
set_option maxRecDepth 100000 in
/-- the next number of a polynomial -/
theorem c_M_poly (l : Launch) (D : mp_G) (g : Nat → ClassId) (S : mp_M) (sz : Nat) (o pa gv : Nat) (m0 m2 m5 m6 m7 m8 m9 m10 m11 m12 m13 m14 m15 m16 m17 m18 m19 m20 m21 m22 m23 m24 m25 m26 m27 m28 m29 m30 : Value) (th : Int32) (pf : Nat → Int32) (h_o : S o = some (2000, .inr (10, [m0, .int (nI gv), m2, .int th, .ref pa, m5, m6, m7, m8, m9, m10, m11, m12, m13, m14, m15, m16, m17, m18, m19, m20, m21, m22, m23, m24, m25, m26, m27, m28, m29, m30]))) (h_pa : S pa = some (2001, .inl ((g 0), 40000, .inl pf))) (hgv : gv < 40) : Met l y_M_poly w_M_poly ({ frames := 0, cells := 0, slots := 0, locals := 0 }) (va_Pc [.ref o] (mp_B0 D classes (tys g) S sz)) (va_Qi (fun (r : Int32) (S1 : mp_M) => r = nI gv ∧ S1 o = some (2000, .inr (10, [m0, .int (nI (gv + 1)), m2, .int (nI 0), .ref pa, m5, m6, m7, m8, m9, m10, m11, m12, m13, m14, m15, m16, m17, m18, m19, m20, m21, m22, m23, m24, m25, m26, m27, m28, m29, m30])) ∧ S1 pa = some (2001, .inl ((g 0), 40000, .inl (zr (1000 * gv) 1000 pf))) ∧ (∀ b, S b ≠ none → b ≠ o → b ≠ pa → S1 b = S b)) (mp_B1 D classes S sz) (mp_A S sz)) 0 0 (mp_A S sz) := by
  refine Met.ofW (cc := b_M_poly) (maxL := 2) (ret := (some .int)) (by decide) rfl ?_
  intro p e s m args below meth c s₁ B hml hv
  obtain ⟨rfl, hsz, hH, hK⟩ := hv
  have hx := B.exec
  have hb := B.bytes
  have hr := B.returns
  have hts := atoms_spec (ws := w_M_poly) B.pre
  have hg : ∀ w ∈ gw, w.before _ s = true := fun w h => hts w (List.mem_cons_of_mem _ h)
  have hown : s.vm.findClass R_M = some m.cls := findClass_of_methodNamed B.named
  have hlocks := B.notSynchronized
  subst hsz
  have hI := mp_I.start hH
  have hl := lv_entry ([.ref o]) (n := 2) (Nat.le_of_ble_eq_true rfl)
  rw [lg_entry_eq]
  generalize (lg_sl ([.ref o]) ++ List.replicate (2 - (lg_sl ([.ref o])).length) Slot.unset).toArray = ls at hl ⊢
  have hl : lv_has ls 2 [(0, .ref o)] := hl
  have hfr : ∀ b, S b ≠ none → b ≠ o → b ≠ pa → S b = S b := fun _ _ _ _ => rfl
  refine lv_aload_n hx hb d_M_poly_0 rfl (lv_at hl 0 rfl) ?_
  refine lv_aload_n hx hb d_M_poly_1 rfl (lv_at hl 0 rfl) ?_
  refine mp_get (C := R_M) (T := F_M) (N := 31) (v := .int (nI gv)) hx hb hg i_M hown hK.va hI h_o rfl 1 (by decide) (hg _ q_805) (fun _ h9 => h9) rfl d_M_poly_2 ?_
  refine lv_bipush (v := nI 40) hx hb d_M_poly_5 (by decide) ?_
  refine lv_icmp_ne (tgt := 14) hx hb d_M_poly_7 (by decide) (fun _ => ?_) (fun h9 => absurd h9 (fun h9 => absurd ((nI_eq (by omega) (by omega)).mp h9) (by omega)))
  refine lv_iconst (v := nI 0) hx hb d_M_poly_14 (by decide) ?_
  refine mp_put (C := R_M) (T := F_M) (N := 31) (v := .int (nI 0)) (ty := .int) hx hb hg i_M t_M t_M_ok n_M hown hK.va hI h_o rfl 3 (by decide) (hg _ q_807) (fun _ h9 => h9) rfl (by decide +kernel) (rfl) rfl (Nat.le_of_ble_eq_true rfl) d_M_poly_15 (fun S1 H2 locs e_3 hI => ?_)
  have e_3 : S1 = va_up S o (some (2000, .inr (10, [m0, .int (nI gv), m2, .int (nI 0), .ref pa, m5, m6, m7, m8, m9, m10, m11, m12, m13, m14, m15, m16, m17, m18, m19, m20, m21, m22, m23, m24, m25, m26, m27, m28, m29, m30]))) := e_3
  have h_pa : S1 pa = some (2001, .inl ((g 0), 40000, .inl pf)) := by rw [e_3]; exact mp_keep h_pa h_o (by decide)
  have h_o : S1 o = some (2000, .inr (10, [m0, .int (nI gv), m2, .int (nI 0), .ref pa, m5, m6, m7, m8, m9, m10, m11, m12, m13, m14, m15, m16, m17, m18, m19, m20, m21, m22, m23, m24, m25, m26, m27, m28, m29, m30])) := by rw [e_3]; exact mp_us _ _ _
  have hfr : ∀ b, S b ≠ none → b ≠ o → b ≠ pa → S1 b = S b := fun b h9 k0 k1 => by rw [e_3]; exact (mp_un k0).trans (hfr b h9 k0 k1)
  refine lv_aload_n hx hb d_M_poly_18 rfl (lv_at hl 0 rfl) ?_
  refine mp_get (C := R_M) (T := F_M) (N := 31) (v := .int (nI 0)) hx hb hg i_M hown hK.va hI h_o rfl 3 (by decide) (hg _ q_807) (fun _ h9 => h9) rfl d_M_poly_19 ?_
  refine lv_if_eq (tgt := 27) hx hb d_M_poly_22 (by decide) (fun _ => ?_) (fun h9 => absurd (by decide) h9)
  refine lv_iconst (v := nI 0) hx hb d_M_poly_27 (by decide) ?_
  refine lv_istore_n (lv' := [(1, .int (nI 0)), (0, .ref o)]) hx hb d_M_poly_28 rfl hl (by decide) rfl (fun ls hl => ?_)
  refine lp_M_poly (B := S) (o := o) (pa := pa) (gv := gv) (pf := pf) hx hb hml hg hown hK (Nat.le_of_ble_eq_true rfl) (Nat.le_of_ble_eq_true rfl) (Nat.le_of_ble_eq_true rfl) (Nat.le_of_ble_eq_true rfl) hgv 1000 0 S1 H2 _ ls (by omega) h_o (by rw [zr_0]; exact h_pa) hfr hI (lv_sub hl [0, 1] rfl) (fun S9 H9 locs9 ls9 h_o h_pa hfr hI hl => ?_)
  refine lv_aload_n hx hb d_M_poly_58 rfl (lv_at hl 1 rfl) ?_
  refine lv_dup hx hb d_M_poly_59 rfl ?_
  refine mp_get (C := R_M) (T := F_M) (N := 31) (v := .int (nI gv)) hx hb hg i_M hown hK.va hI h_o rfl 1 (by decide) (hg _ q_805) (fun _ h9 => h9) rfl d_M_poly_60 ?_
  refine lv_iconst (v := nI 1) hx hb d_M_poly_63 (by decide) ?_
  refine lv_iadd hx hb d_M_poly_64 ?_
  refine lv_topi (fun v4 ev4 => ?_)
  obtain rfl : v4 = nI (gv + 1) := ev4.trans (nI_add _ _)
  refine mp_put (C := R_M) (T := F_M) (N := 31) (v := .int (nI (gv + 1))) (ty := .int) hx hb hg i_M t_M t_M_ok n_M hown hK.va hI h_o rfl 1 (by decide) (hg _ q_805) (fun _ h9 => h9) rfl (by decide +kernel) (rfl) rfl (Nat.le_of_ble_eq_true rfl) d_M_poly_65 (fun S5 H6 locs e_7 hI => ?_)
  have e_7 : S5 = va_up S9 o (some (2000, .inr (10, [m0, .int (nI (gv + 1)), m2, .int (nI 0), .ref pa, m5, m6, m7, m8, m9, m10, m11, m12, m13, m14, m15, m16, m17, m18, m19, m20, m21, m22, m23, m24, m25, m26, m27, m28, m29, m30]))) := e_7
  have h_pa : S5 pa = some (2001, .inl ((g 0), 40000, .inl (zr (1000 * gv) 1000 pf))) := by rw [e_7]; exact mp_keep h_pa h_o (by decide)
  have h_o : S5 o = some (2000, .inr (10, [m0, .int (nI (gv + 1)), m2, .int (nI 0), .ref pa, m5, m6, m7, m8, m9, m10, m11, m12, m13, m14, m15, m16, m17, m18, m19, m20, m21, m22, m23, m24, m25, m26, m27, m28, m29, m30])) := by rw [e_7]; exact mp_us _ _ _
  have hfr : ∀ b, S b ≠ none → b ≠ o → b ≠ pa → S5 b = S b := fun b h9 k0 k1 => by rw [e_7]; exact (mp_un k0).trans (hfr b h9 k0 k1)
  refine lv_aload_n hx hb d_M_poly_68 rfl (lv_at hl 1 rfl) ?_
  refine mp_get (C := R_M) (T := F_M) (N := 31) (v := .int (nI (gv + 1))) hx hb hg i_M hown hK.va hI h_o rfl 1 (by decide) (hg _ q_805) (fun _ h9 => h9) rfl d_M_poly_69 ?_
  refine lv_iconst (v := nI 1) hx hb d_M_poly_72 (by decide) ?_
  refine lv_isub hx hb d_M_poly_73 ?_
  refine lv_topi (fun v8 ev8 => ?_)
  obtain rfl : v8 = nI ((gv + 1) - 1) := ev8.trans (pk_sub (by omega))
  refine mp_iret hx hb hr hlocks hI (by decide) (by decide) ?_ d_M_poly_74
  exact ⟨congrArg nI (by omega), h_o, h_pa, hfr⟩
set_option maxHeartbeats 4000000 in
set_option maxRecDepth 100000 in
/-- 40 were given -/
theorem c_M_polyX (l : Launch) (D : mp_G) (g : Nat → ClassId) (S : mp_M) (sz : Nat) (o : Nat) (m0 m2 m4 m5 m6 m7 m8 m9 m10 m11 m12 m13 m14 m15 m16 m17 m18 m19 m20 m21 m22 m23 m24 m25 m26 m27 m28 m29 m30 : Value) (th : Int32) (h_o : S o = some (2000, .inr (10, [m0, .int (nI 40), m2, .int th, m4, m5, m6, m7, m8, m9, m10, m11, m12, m13, m14, m15, m16, m17, m18, m19, m20, m21, m22, m23, m24, m25, m26, m27, m28, m29, m30])))  : Met l y_M_poly w_M_poly ({ frames := 0, cells := 0, slots := 0, locals := 0 }) (va_Pc [.ref o] (mp_B0 D classes (tys g) S sz)) (va_Qi (fun (r : Int32) (S1 : mp_M) => S1 o = some (2000, .inr (10, [m0, .int (nI 40), m2, .int (nI 1), m4, m5, m6, m7, m8, m9, m10, m11, m12, m13, m14, m15, m16, m17, m18, m19, m20, m21, m22, m23, m24, m25, m26, m27, m28, m29, m30])) ∧ (∀ b, S b ≠ none → b ≠ o → S1 b = S b)) (mp_B1 D classes S sz) (mp_A S sz)) 0 0 (mp_A S sz) := by
  refine Met.ofW (cc := b_M_poly) (maxL := 2) (ret := (some .int)) (by decide) rfl ?_
  intro p e s m args below meth c s₁ B hml hv
  obtain ⟨rfl, hsz, hH, hK⟩ := hv
  have hx := B.exec
  have hb := B.bytes
  have hr := B.returns
  have hts := atoms_spec (ws := w_M_poly) B.pre
  have hg : ∀ w ∈ gw, w.before _ s = true := fun w h => hts w (List.mem_cons_of_mem _ h)
  have hown : s.vm.findClass R_M = some m.cls := findClass_of_methodNamed B.named
  have hlocks := B.notSynchronized
  subst hsz
  have hI := mp_I.start hH
  have hl := lv_entry ([.ref o]) (n := 2) (Nat.le_of_ble_eq_true rfl)
  rw [lg_entry_eq]
  generalize (lg_sl ([.ref o]) ++ List.replicate (2 - (lg_sl ([.ref o])).length) Slot.unset).toArray = ls at hl ⊢
  have hl : lv_has ls 2 [(0, .ref o)] := hl
  have hfr : ∀ b, S b ≠ none → b ≠ o → S b = S b := fun _ _ _ => rfl
  refine lv_aload_n hx hb d_M_poly_0 rfl (lv_at hl 0 rfl) ?_
  refine lv_aload_n hx hb d_M_poly_1 rfl (lv_at hl 0 rfl) ?_
  refine mp_get (C := R_M) (T := F_M) (N := 31) (v := .int (nI 40)) hx hb hg i_M hown hK.va hI h_o rfl 1 (by decide) (hg _ q_805) (fun _ h9 => h9) rfl d_M_poly_2 ?_
  refine lv_bipush (v := nI 40) hx hb d_M_poly_5 (by decide) ?_
  refine lv_icmp_ne (tgt := 14) hx hb d_M_poly_7 (by decide) (fun h9 => absurd h9 (fun h9 => h9 rfl)) (fun _ => ?_)
  refine lv_iconst (v := nI 1) hx hb d_M_poly_10 (by decide) ?_
  refine lv_goto (tgt := 15) hx hb d_M_poly_11 (by decide) ?_
  refine mp_put (C := R_M) (T := F_M) (N := 31) (v := .int (nI 1)) (ty := .int) hx hb hg i_M t_M t_M_ok n_M hown hK.va hI h_o rfl 3 (by decide) (hg _ q_807) (fun _ h9 => h9) rfl (by decide +kernel) (rfl) rfl (Nat.le_of_ble_eq_true rfl) d_M_poly_15 (fun S1 H2 locs e_3 hI => ?_)
  have e_3 : S1 = va_up S o (some (2000, .inr (10, [m0, .int (nI 40), m2, .int (nI 1), m4, m5, m6, m7, m8, m9, m10, m11, m12, m13, m14, m15, m16, m17, m18, m19, m20, m21, m22, m23, m24, m25, m26, m27, m28, m29, m30]))) := e_3
  have h_o : S1 o = some (2000, .inr (10, [m0, .int (nI 40), m2, .int (nI 1), m4, m5, m6, m7, m8, m9, m10, m11, m12, m13, m14, m15, m16, m17, m18, m19, m20, m21, m22, m23, m24, m25, m26, m27, m28, m29, m30])) := by rw [e_3]; exact mp_us _ _ _
  have hfr : ∀ b, S b ≠ none → b ≠ o → S1 b = S b := fun b h9 k0 => by rw [e_3]; exact (mp_un k0).trans (hfr b h9 k0)
  refine lv_aload_n hx hb d_M_poly_18 rfl (lv_at hl 0 rfl) ?_
  refine mp_get (C := R_M) (T := F_M) (N := 31) (v := .int (nI 1)) hx hb hg i_M hown hK.va hI h_o rfl 3 (by decide) (hg _ q_807) (fun _ h9 => h9) rfl d_M_poly_19 ?_
  refine lv_if_eq (tgt := 27) hx hb d_M_poly_22 (by decide) (fun h9 => absurd h9 (by decide)) (fun _ => ?_)
  refine lv_iconst (v := nI 0) hx hb d_M_poly_25 (by decide) ?_
  refine mp_iret hx hb hr hlocks hI (by decide) (by decide) ?_ d_M_poly_26
  exact ⟨h_o, hfr⟩
set_option maxHeartbeats 4000000 in
set_option maxRecDepth 100000 in
theorem lp_M_clear {p : Program} {l : Launch} {e : Env} {R : Room} {s : State} {m : MethodId} {args : Array Value} {below : List Frame} {meth : Method} {c : Code} {Q : State → Prop} {D : mp_G} {g : Nat → ClassId} {A : Nat → Prop} {cells slots : Nat} (hx : p.tables.exec = Jvm.exec) (hb : c.code = b_M_clear) (hml : c.maxLocals = 2) (hg : ∀ w ∈ gw, w.before args s = true) (hown : s.vm.findClass R_M = some m.cls) (hK : mp_K D classes (tys g) s) (hRf : 0 ≤ R.frames) (hRl : 0 ≤ R.locals) (hRc : cells ≤ R.cells) (hRs : slots ≤ R.slots) {B : mp_M} {o pa : Nat} {m0 m6 m7 m8 m9 m10 m11 m14 m15 m16 m17 m18 m19 m20 m21 m22 m23 m24 m25 m26 m27 m28 m29 m30 : Value} {pf : Nat → Int32}  : ∀ (k i : Nat) (S : mp_M) (H : Heap) (locs : List Loc) (ls : Array Slot), i + k = 40000 → S o = some (2000, .inr (10, [m0, .int (nI 0), .int (nI 0), .int (nI 0), .ref pa, .int (nI 0), m6, m7, m8, m9, m10, m11, .int (nI 0), .int (nI 0), m14, m15, m16, m17, m18, m19, m20, m21, m22, m23, m24, m25, m26, m27, m28, m29, m30])) → S pa = some (2001, .inl ((g 0), 40000, .inl (zr 0 i pf))) → (∀ b, B b ≠ none → b ≠ o → b ≠ pa → S b = B b) → mp_I D classes A s.heap S H locs → lv_has ls 2 [(1, .int (nI i)), (0, .ref o)] → (∀ (S : mp_M) (H : Heap) (locs : List Loc) (ls : Array Slot), S o = some (2000, .inr (10, [m0, .int (nI 0), .int (nI 0), .int (nI 0), .ref pa, .int (nI 0), m6, m7, m8, m9, m10, m11, .int (nI 0), .int (nI 0), m14, m15, m16, m17, m18, m19, m20, m21, m22, m23, m24, m25, m26, m27, m28, m29, m30])) → S pa = some (2001, .inl ((g 0), 40000, .inl (zr 0 40000 pf))) → (∀ b, B b ≠ none → b ≠ o → b ≠ pa → S b = B b) → mp_I D classes A s.heap S H locs → lv_has ls 2 [(1, .int (nI 40000)), (0, .ref o)] → W p l e R s m args below meth c H locs cells slots Q (F0 m 51 ls [])) → W p l e R s m args below meth c H locs cells slots Q (F0 m 32 ls []) := by
  intro k
  induction k with
  | zero =>
    intro i S H locs ls hi h_o h_pa hfr hI hl kx
    obtain rfl : i = 40000 := by omega
    refine lv_iload_n hx hb d_M_clear_32 rfl (lv_at hl 0 rfl) ?_
    refine lv_ldc (v := nI 40000) hx hb hown (hg _ q_803) d_M_clear_33 ?_
    refine lv_icmp_ge (tgt := 51) hx hb d_M_clear_35 (by decide) (fun _ => ?_) (fun h9 => absurd (by decide) h9)
    exact kx S H locs ls h_o h_pa hfr hI hl
  | succ k ih =>
    intro i S H locs ls hi h_o h_pa hfr hI hl kx
    refine lv_iload_n hx hb d_M_clear_32 rfl (lv_at hl 0 rfl) ?_
    refine lv_ldc (v := nI 40000) hx hb hown (hg _ q_803) d_M_clear_33 ?_
    refine lv_icmp_ge (tgt := 51) hx hb d_M_clear_35 (by decide) (fun h9 => absurd h9 (by rw [nI_leI (by omega) (by omega)]; omega)) (fun _ => ?_)
    refine lv_aload_n hx hb d_M_clear_38 rfl (lv_at hl 1 rfl) ?_
    refine mp_get (C := R_M) (T := F_M) (N := 31) (v := .ref pa) hx hb hg i_M hown hK.va hI h_o rfl 4 (by decide) (hg _ q_808) (fun _ h9 => h9) rfl d_M_clear_39 ?_
    refine lv_iload_n hx hb d_M_clear_42 rfl (lv_at hl 0 rfl) ?_
    refine lv_iconst (v := nI 0) hx hb d_M_clear_43 (by decide) ?_
    refine mp_iast hx hb hK.va hI 0 h_pa rfl (vp_in_nI (show i < 40000 by omega) (by decide)) d_M_clear_44 (fun S1 H2 locs e_3 hI => ?_)
    have e_3 : S1 = va_up S pa (some (2001, .inl ((g 0), 40000, .inl (upd (zr 0 i pf) (nI i).toNatClampNeg (nI 0))))) := e_3
    have h_o : S1 o = some (2000, .inr (10, [m0, .int (nI 0), .int (nI 0), .int (nI 0), .ref pa, .int (nI 0), m6, m7, m8, m9, m10, m11, .int (nI 0), .int (nI 0), m14, m15, m16, m17, m18, m19, m20, m21, m22, m23, m24, m25, m26, m27, m28, m29, m30])) := by rw [e_3]; exact mp_keep h_o h_pa (by decide)
    have h_pa : S1 pa = some (2001, .inl ((g 0), 40000, .inl (upd (zr 0 i pf) (nI i).toNatClampNeg (nI 0)))) := by rw [e_3]; exact mp_us _ _ _
    have hfr : ∀ b, B b ≠ none → b ≠ o → b ≠ pa → S1 b = B b := fun b h9 k0 k1 => by rw [e_3]; exact (mp_un k1).trans (hfr b h9 k0 k1)
    rw [nI_clamp (by omega)] at h_pa
    have h_pa : S1 pa = some (2001, .inl ((g 0), 40000, .inl (zr 0 (i + 1) pf))) := by rw [← zr_up, Nat.zero_add]; exact h_pa
    refine lv_iinc (v := nI (i + 1)) (lv' := [(1, .int (nI (i + 1))), (0, .ref o)]) hx hb d_M_clear_45 hl (k := 0) rfl (nI_1 _) (by decide) rfl (fun ls hl => ?_)
    refine lv_goto (tgt := 32) hx hb d_M_clear_48 (by decide) ?_
    exact ih (i + 1) S1 H2 locs ls (by omega) h_o h_pa hfr hI (lv_sub hl [0, 1] rfl) kx
set_option maxHeartbeats 4000000 in
set_option maxRecDepth 100000 in
/-- clear -/
theorem c_M_clear (l : Launch) (D : mp_G) (g : Nat → ClassId) (S : mp_M) (sz : Nat) (o pa : Nat) (m0 m1 m2 m3 m5 m6 m7 m8 m9 m10 m11 m12 m13 m14 m15 m16 m17 m18 m19 m20 m21 m22 m23 m24 m25 m26 m27 m28 m29 m30 : Value) (pf : Nat → Int32) (h_o : S o = some (2000, .inr (10, [m0, m1, m2, m3, .ref pa, m5, m6, m7, m8, m9, m10, m11, m12, m13, m14, m15, m16, m17, m18, m19, m20, m21, m22, m23, m24, m25, m26, m27, m28, m29, m30]))) (h_pa : S pa = some (2001, .inl ((g 0), 40000, .inl pf)))  : Met l y_M_clear w_M_clear ({ frames := 0, cells := 0, slots := 0, locals := 0 }) (va_Pc [.ref o] (mp_B0 D classes (tys g) S sz)) (va_Qv (fun (S1 : mp_M) => S1 o = some (2000, .inr (10, [m0, .int (nI 0), .int (nI 0), .int (nI 0), .ref pa, .int (nI 0), m6, m7, m8, m9, m10, m11, .int (nI 0), .int (nI 0), m14, m15, m16, m17, m18, m19, m20, m21, m22, m23, m24, m25, m26, m27, m28, m29, m30])) ∧ S1 pa = some (2001, .inl ((g 0), 40000, .inl (zr 0 40000 pf))) ∧ (∀ b, S b ≠ none → b ≠ o → b ≠ pa → S1 b = S b)) (mp_B1 D classes S sz) (mp_A S sz)) 0 0 (mp_A S sz) := by
  refine Met.ofW (cc := b_M_clear) (maxL := 2) (ret := none) (by decide) rfl ?_
  intro p e s m args below meth c s₁ B hml hv
  obtain ⟨rfl, hsz, hH, hK⟩ := hv
  have hx := B.exec
  have hb := B.bytes
  have hr := B.returns
  have hts := atoms_spec (ws := w_M_clear) B.pre
  have hg : ∀ w ∈ gw, w.before _ s = true := fun w h => hts w (List.mem_cons_of_mem _ h)
  have hown : s.vm.findClass R_M = some m.cls := findClass_of_methodNamed B.named
  have hlocks := B.notSynchronized
  subst hsz
  have hI := mp_I.start hH
  have hl := lv_entry ([.ref o]) (n := 2) (Nat.le_of_ble_eq_true rfl)
  rw [lg_entry_eq]
  generalize (lg_sl ([.ref o]) ++ List.replicate (2 - (lg_sl ([.ref o])).length) Slot.unset).toArray = ls at hl ⊢
  have hl : lv_has ls 2 [(0, .ref o)] := hl
  have hfr : ∀ b, S b ≠ none → b ≠ o → b ≠ pa → S b = S b := fun _ _ _ _ => rfl
  refine lv_aload_n hx hb d_M_clear_0 rfl (lv_at hl 0 rfl) ?_
  refine lv_iconst (v := nI 0) hx hb d_M_clear_1 (by decide) ?_
  refine mp_put (C := R_M) (T := F_M) (N := 31) (v := .int (nI 0)) (ty := .int) hx hb hg i_M t_M t_M_ok n_M hown hK.va hI h_o rfl 3 (by decide) (hg _ q_807) (fun _ h9 => h9) rfl (by decide +kernel) (rfl) rfl (Nat.le_of_ble_eq_true rfl) d_M_clear_2 (fun S1 H2 locs e_3 hI => ?_)
  have e_3 : S1 = va_up S o (some (2000, .inr (10, [m0, m1, m2, .int (nI 0), .ref pa, m5, m6, m7, m8, m9, m10, m11, m12, m13, m14, m15, m16, m17, m18, m19, m20, m21, m22, m23, m24, m25, m26, m27, m28, m29, m30]))) := e_3
  have h_pa : S1 pa = some (2001, .inl ((g 0), 40000, .inl pf)) := by rw [e_3]; exact mp_keep h_pa h_o (by decide)
  have h_o : S1 o = some (2000, .inr (10, [m0, m1, m2, .int (nI 0), .ref pa, m5, m6, m7, m8, m9, m10, m11, m12, m13, m14, m15, m16, m17, m18, m19, m20, m21, m22, m23, m24, m25, m26, m27, m28, m29, m30])) := by rw [e_3]; exact mp_us _ _ _
  have hfr : ∀ b, S b ≠ none → b ≠ o → b ≠ pa → S1 b = S b := fun b h9 k0 k1 => by rw [e_3]; exact (mp_un k0).trans (hfr b h9 k0 k1)
  refine lv_aload_n hx hb d_M_clear_5 rfl (lv_at hl 0 rfl) ?_
  refine lv_iconst (v := nI 0) hx hb d_M_clear_6 (by decide) ?_
  refine mp_put (C := R_M) (T := F_M) (N := 31) (v := .int (nI 0)) (ty := .int) hx hb hg i_M t_M t_M_ok n_M hown hK.va hI h_o rfl 1 (by decide) (hg _ q_805) (fun _ h9 => h9) rfl (by decide +kernel) (rfl) rfl (Nat.le_of_ble_eq_true rfl) d_M_clear_7 (fun S4 H5 locs e_6 hI => ?_)
  have e_6 : S4 = va_up S1 o (some (2000, .inr (10, [m0, .int (nI 0), m2, .int (nI 0), .ref pa, m5, m6, m7, m8, m9, m10, m11, m12, m13, m14, m15, m16, m17, m18, m19, m20, m21, m22, m23, m24, m25, m26, m27, m28, m29, m30]))) := e_6
  have h_pa : S4 pa = some (2001, .inl ((g 0), 40000, .inl pf)) := by rw [e_6]; exact mp_keep h_pa h_o (by decide)
  have h_o : S4 o = some (2000, .inr (10, [m0, .int (nI 0), m2, .int (nI 0), .ref pa, m5, m6, m7, m8, m9, m10, m11, m12, m13, m14, m15, m16, m17, m18, m19, m20, m21, m22, m23, m24, m25, m26, m27, m28, m29, m30])) := by rw [e_6]; exact mp_us _ _ _
  have hfr : ∀ b, S b ≠ none → b ≠ o → b ≠ pa → S4 b = S b := fun b h9 k0 k1 => by rw [e_6]; exact (mp_un k0).trans (hfr b h9 k0 k1)
  refine lv_aload_n hx hb d_M_clear_10 rfl (lv_at hl 0 rfl) ?_
  refine lv_iconst (v := nI 0) hx hb d_M_clear_11 (by decide) ?_
  refine mp_put (C := R_M) (T := F_M) (N := 31) (v := .int (nI 0)) (ty := .int) hx hb hg i_M t_M t_M_ok n_M hown hK.va hI h_o rfl 2 (by decide) (hg _ q_806) (fun _ h9 => h9) rfl (by decide +kernel) (rfl) rfl (Nat.le_of_ble_eq_true rfl) d_M_clear_12 (fun S7 H8 locs e_9 hI => ?_)
  have e_9 : S7 = va_up S4 o (some (2000, .inr (10, [m0, .int (nI 0), .int (nI 0), .int (nI 0), .ref pa, m5, m6, m7, m8, m9, m10, m11, m12, m13, m14, m15, m16, m17, m18, m19, m20, m21, m22, m23, m24, m25, m26, m27, m28, m29, m30]))) := e_9
  have h_pa : S7 pa = some (2001, .inl ((g 0), 40000, .inl pf)) := by rw [e_9]; exact mp_keep h_pa h_o (by decide)
  have h_o : S7 o = some (2000, .inr (10, [m0, .int (nI 0), .int (nI 0), .int (nI 0), .ref pa, m5, m6, m7, m8, m9, m10, m11, m12, m13, m14, m15, m16, m17, m18, m19, m20, m21, m22, m23, m24, m25, m26, m27, m28, m29, m30])) := by rw [e_9]; exact mp_us _ _ _
  have hfr : ∀ b, S b ≠ none → b ≠ o → b ≠ pa → S7 b = S b := fun b h9 k0 k1 => by rw [e_9]; exact (mp_un k0).trans (hfr b h9 k0 k1)
  refine lv_aload_n hx hb d_M_clear_15 rfl (lv_at hl 0 rfl) ?_
  refine lv_iconst (v := nI 0) hx hb d_M_clear_16 (by decide) ?_
  refine mp_put (C := R_M) (T := F_M) (N := 31) (v := .int (nI 0)) (ty := .int) hx hb hg i_M t_M t_M_ok n_M hown hK.va hI h_o rfl 5 (by decide) (hg _ q_809) (fun _ h9 => h9) rfl (by decide +kernel) (rfl) rfl (Nat.le_of_ble_eq_true rfl) d_M_clear_17 (fun S10 H11 locs e_12 hI => ?_)
  have e_12 : S10 = va_up S7 o (some (2000, .inr (10, [m0, .int (nI 0), .int (nI 0), .int (nI 0), .ref pa, .int (nI 0), m6, m7, m8, m9, m10, m11, m12, m13, m14, m15, m16, m17, m18, m19, m20, m21, m22, m23, m24, m25, m26, m27, m28, m29, m30]))) := e_12
  have h_pa : S10 pa = some (2001, .inl ((g 0), 40000, .inl pf)) := by rw [e_12]; exact mp_keep h_pa h_o (by decide)
  have h_o : S10 o = some (2000, .inr (10, [m0, .int (nI 0), .int (nI 0), .int (nI 0), .ref pa, .int (nI 0), m6, m7, m8, m9, m10, m11, m12, m13, m14, m15, m16, m17, m18, m19, m20, m21, m22, m23, m24, m25, m26, m27, m28, m29, m30])) := by rw [e_12]; exact mp_us _ _ _
  have hfr : ∀ b, S b ≠ none → b ≠ o → b ≠ pa → S10 b = S b := fun b h9 k0 k1 => by rw [e_12]; exact (mp_un k0).trans (hfr b h9 k0 k1)
  refine lv_aload_n hx hb d_M_clear_20 rfl (lv_at hl 0 rfl) ?_
  refine lv_iconst (v := nI 0) hx hb d_M_clear_21 (by decide) ?_
  refine mp_put (C := R_M) (T := F_M) (N := 31) (v := .int (nI 0)) (ty := .boolean) hx hb hg i_M t_M t_M_ok n_M hown hK.va hI h_o rfl 12 (by decide) (hg _ q_816) (fun _ h9 => h9) rfl (by decide +kernel) (rfl) rfl (Nat.le_of_ble_eq_true rfl) d_M_clear_22 (fun S13 H14 locs e_15 hI => ?_)
  have e_15 : S13 = va_up S10 o (some (2000, .inr (10, [m0, .int (nI 0), .int (nI 0), .int (nI 0), .ref pa, .int (nI 0), m6, m7, m8, m9, m10, m11, .int (nI 0), m13, m14, m15, m16, m17, m18, m19, m20, m21, m22, m23, m24, m25, m26, m27, m28, m29, m30]))) := e_15
  have h_pa : S13 pa = some (2001, .inl ((g 0), 40000, .inl pf)) := by rw [e_15]; exact mp_keep h_pa h_o (by decide)
  have h_o : S13 o = some (2000, .inr (10, [m0, .int (nI 0), .int (nI 0), .int (nI 0), .ref pa, .int (nI 0), m6, m7, m8, m9, m10, m11, .int (nI 0), m13, m14, m15, m16, m17, m18, m19, m20, m21, m22, m23, m24, m25, m26, m27, m28, m29, m30])) := by rw [e_15]; exact mp_us _ _ _
  have hfr : ∀ b, S b ≠ none → b ≠ o → b ≠ pa → S13 b = S b := fun b h9 k0 k1 => by rw [e_15]; exact (mp_un k0).trans (hfr b h9 k0 k1)
  refine lv_aload_n hx hb d_M_clear_25 rfl (lv_at hl 0 rfl) ?_
  refine lv_iconst (v := nI 0) hx hb d_M_clear_26 (by decide) ?_
  refine mp_put (C := R_M) (T := F_M) (N := 31) (v := .int (nI 0)) (ty := .boolean) hx hb hg i_M t_M t_M_ok n_M hown hK.va hI h_o rfl 13 (by decide) (hg _ q_817) (fun _ h9 => h9) rfl (by decide +kernel) (rfl) rfl (Nat.le_of_ble_eq_true rfl) d_M_clear_27 (fun S16 H17 locs e_18 hI => ?_)
  have e_18 : S16 = va_up S13 o (some (2000, .inr (10, [m0, .int (nI 0), .int (nI 0), .int (nI 0), .ref pa, .int (nI 0), m6, m7, m8, m9, m10, m11, .int (nI 0), .int (nI 0), m14, m15, m16, m17, m18, m19, m20, m21, m22, m23, m24, m25, m26, m27, m28, m29, m30]))) := e_18
  have h_pa : S16 pa = some (2001, .inl ((g 0), 40000, .inl pf)) := by rw [e_18]; exact mp_keep h_pa h_o (by decide)
  have h_o : S16 o = some (2000, .inr (10, [m0, .int (nI 0), .int (nI 0), .int (nI 0), .ref pa, .int (nI 0), m6, m7, m8, m9, m10, m11, .int (nI 0), .int (nI 0), m14, m15, m16, m17, m18, m19, m20, m21, m22, m23, m24, m25, m26, m27, m28, m29, m30])) := by rw [e_18]; exact mp_us _ _ _
  have hfr : ∀ b, S b ≠ none → b ≠ o → b ≠ pa → S16 b = S b := fun b h9 k0 k1 => by rw [e_18]; exact (mp_un k0).trans (hfr b h9 k0 k1)
  refine lv_iconst (v := nI 0) hx hb d_M_clear_30 (by decide) ?_
  refine lv_istore_n (lv' := [(1, .int (nI 0)), (0, .ref o)]) hx hb d_M_clear_31 rfl hl (by decide) rfl (fun ls hl => ?_)
  refine lp_M_clear (B := S) (o := o) (pa := pa) (pf := pf) hx hb hml hg hown hK (Nat.le_of_ble_eq_true rfl) (Nat.le_of_ble_eq_true rfl) (Nat.le_of_ble_eq_true rfl) (Nat.le_of_ble_eq_true rfl) 40000 0 S16 H17 _ ls (by omega) h_o (by rw [zr_0]; exact h_pa) hfr hI (lv_sub hl [0, 1] rfl) (fun S9 H9 locs9 ls9 h_o h_pa hfr hI hl => ?_)
  refine mp_vret hx hb hr hlocks hI (by decide) (by decide) ?_ d_M_clear_51
  exact ⟨h_o, h_pa, hfr⟩
set_option maxHeartbeats 4000000 in
set_option maxRecDepth 100000 in
/-- take: no such polynomial -/
theorem c_M_takeN (l : Launch) (D : mp_G) (g : Nat → ClassId) (S : mp_M) (sz : Nat) (o : Nat) (m0 m1 m2 m4 m5 m6 m7 m8 m9 m10 m11 m12 m13 m14 m15 m16 m17 m18 m19 m20 m21 m22 m23 m24 m25 m26 m27 m28 m29 m30 : Value) (th x : Int32) (h_o : S o = some (2000, .inr (10, [m0, m1, m2, .int th, m4, m5, m6, m7, m8, m9, m10, m11, m12, m13, m14, m15, m16, m17, m18, m19, m20, m21, m22, m23, m24, m25, m26, m27, m28, m29, m30]))) (hx9 : x < 0 ∨ nI 40 ≤ x) : Met l y_M_take w_M_take ({ frames := 1, cells := 0, slots := 0, locals := 20 }) (va_Pc [.ref o, .int x] (mp_B0 D classes (tys g) S sz)) (va_Qi (fun (r : Int32) (S1 : mp_M) => S1 o = some (2000, .inr (10, [m0, m1, m2, .int (nI 1), m4, m5, m6, m7, m8, m9, m10, m11, m12, m13, m14, m15, m16, m17, m18, m19, m20, m21, m22, m23, m24, m25, m26, m27, m28, m29, m30])) ∧ (∀ b, S b ≠ none → b ≠ o → S1 b = S b)) (mp_B1 D classes S sz) (mp_A S sz)) 0 0 (mp_A S sz) := by
  refine Met.ofW (cc := b_M_take) (maxL := 6) (ret := (some .boolean)) (by decide) rfl ?_
  intro p e s m args below meth c s₁ B hml hv
  obtain ⟨rfl, hsz, hH, hK⟩ := hv
  have hx := B.exec
  have hb := B.bytes
  have hr := B.returns
  have hts := atoms_spec (ws := w_M_take) B.pre
  have hg : ∀ w ∈ gw, w.before _ s = true := fun w h => hts w (List.mem_cons_of_mem _ h)
  have hown : s.vm.findClass R_M = some m.cls := findClass_of_methodNamed B.named
  have hlocks := B.notSynchronized
  subst hsz
  have hI := mp_I.start hH
  have hl := lv_entry ([.ref o, .int x]) (n := 6) (Nat.le_of_ble_eq_true rfl)
  rw [lg_entry_eq]
  generalize (lg_sl ([.ref o, .int x]) ++ List.replicate (6 - (lg_sl ([.ref o, .int x])).length) Slot.unset).toArray = ls at hl ⊢
  have hl : lv_has ls 6 [(0, .ref o), (1, .int x)] := hl
  have hfr : ∀ b, S b ≠ none → b ≠ o → S b = S b := fun _ _ _ => rfl
  refine lv_aload_n hx hb d_M_take_0 rfl (lv_at hl 0 rfl) ?_
  refine lv_iload_n hx hb d_M_take_1 rfl (lv_at hl 1 rfl) ?_
  refine mp_calli hI (va_runS (As := [.int x]) (rest := [.ref o]) ⟨hx, hb, hml, hown, hg⟩ (c_M_isPolyN l D g S _ x hx9) ⟨(callB_of 1 hg (wd_goodG q_913) rfl rfl rfl (hg _ q_5) (hg _ q_911) (by decide +kernel) ⟨Nat.le_of_ble_eq_true rfl, Nat.le_of_ble_eq_true rfl⟩), hg _ q_912⟩ (mp_pre hI hK [.int x]) rfl rfl hl.1 rfl (lv_room (Nat.le_of_ble_eq_true rfl)) d_M_take_2 ⟨Nat.le_of_ble_eq_true rfl, Nat.le_of_ble_eq_true rfl⟩) (fun r4 S1 H2 locs p_3 hI => ?_)
  obtain ⟨er4, eS5⟩ := p_3
  rw [eS5] at hI
  have er4 : r4 = 0 := er4
  subst er4
  refine lv_if_eq (tgt := 12) hx hb d_M_take_5 (by decide) (fun _ => ?_) (fun h9 => absurd (by decide) h9)
  refine lv_iconst (v := nI 1) hx hb d_M_take_12 (by decide) ?_
  refine mp_put (C := R_M) (T := F_M) (N := 31) (v := .int (nI 1)) (ty := .int) hx hb hg i_M t_M t_M_ok n_M hown hK.va hI h_o rfl 3 (by decide) (hg _ q_807) (fun _ h9 => h9) rfl (by decide +kernel) (rfl) rfl (Nat.le_of_ble_eq_true rfl) d_M_take_13 (fun S6 H7 locs e_8 hI => ?_)
  have e_8 : S6 = va_up S o (some (2000, .inr (10, [m0, m1, m2, .int (nI 1), m4, m5, m6, m7, m8, m9, m10, m11, m12, m13, m14, m15, m16, m17, m18, m19, m20, m21, m22, m23, m24, m25, m26, m27, m28, m29, m30]))) := e_8
  have h_o : S6 o = some (2000, .inr (10, [m0, m1, m2, .int (nI 1), m4, m5, m6, m7, m8, m9, m10, m11, m12, m13, m14, m15, m16, m17, m18, m19, m20, m21, m22, m23, m24, m25, m26, m27, m28, m29, m30])) := by rw [e_8]; exact mp_us _ _ _
  have hfr : ∀ b, S b ≠ none → b ≠ o → S6 b = S b := fun b h9 k0 => by rw [e_8]; exact (mp_un k0).trans (hfr b h9 k0)
  refine lv_aload_n hx hb d_M_take_16 rfl (lv_at hl 0 rfl) ?_
  refine mp_get (C := R_M) (T := F_M) (N := 31) (v := .int (nI 1)) hx hb hg i_M hown hK.va hI h_o rfl 3 (by decide) (hg _ q_807) (fun _ h9 => h9) rfl d_M_take_17 ?_
  refine lv_if_ne (tgt := 32) hx hb d_M_take_20 (by decide) (fun _ => ?_) (fun h9 => absurd h9 (by decide))
  refine lv_iconst (v := nI 0) hx hb d_M_take_32 (by decide) ?_
  refine mp_zret hx hb hr hlocks hI (by decide) (by decide) ?_ (by decide) d_M_take_33
  exact ⟨h_o, hfr⟩
set_option maxHeartbeats 4000000 in
set_option maxRecDepth 100000 in
theorem lp_M_take0 {p : Program} {l : Launch} {e : Env} {R : Room} {s : State} {m : MethodId} {args : Array Value} {below : List Frame} {meth : Method} {c : Code} {Q : State → Prop} {D : mp_G} {g : Nat → ClassId} {A : Nat → Prop} {cells slots : Nat} (hx : p.tables.exec = Jvm.exec) (hb : c.code = b_M_take) (hml : c.maxLocals = 6) (hg : ∀ w ∈ gw, w.before args s = true) (hown : s.vm.findClass R_M = some m.cls) (hK : mp_K D classes (tys g) s) (hRf : 0 ≤ R.frames) (hRl : 0 ≤ R.locals) (hRc : cells ≤ R.cells) (hRs : slots ≤ R.slots) {B : mp_M} {o pa k9 tk : Nat} {m0 m1 m5 m6 m7 m8 m9 m10 m11 m13 m14 m15 m16 m17 m18 m19 m20 m21 m22 m23 m24 m25 m26 m27 m28 m29 m30 : Value} {pf : Nat → Int32} (hk : k9 < 40) (hz : ∀ j, j < 1000 → pf (1000 * k9 + j) = 0) : ∀ (k i : Nat) (S : mp_M) (H : Heap) (locs : List Loc) (ls : Array Slot), i + k = 1000 → S o = some (2000, .inr (10, [m0, m1, .int (nI (tk + 1)), .int (nI 0), .ref pa, m5, m6, m7, m8, m9, m10, m11, .int (nI 0), m13, m14, m15, m16, m17, m18, m19, m20, m21, m22, m23, m24, m25, m26, m27, m28, m29, m30])) → S pa = some (2001, .inl ((g 0), 40000, .inl pf)) → (∀ b, B b ≠ none → b ≠ o → S b = B b) → mp_I D classes A s.heap S H locs → lv_has ls 6 [(4, .int (nI i)), (3, .int (-1)), (2, .int (nI 0)), (1, .int (nI k9)), (0, .ref o)] → (∀ (S : mp_M) (H : Heap) (locs : List Loc) (ls : Array Slot), S o = some (2000, .inr (10, [m0, m1, .int (nI (tk + 1)), .int (nI 0), .ref pa, m5, m6, m7, m8, m9, m10, m11, .int (nI 0), m13, m14, m15, m16, m17, m18, m19, m20, m21, m22, m23, m24, m25, m26, m27, m28, m29, m30])) → S pa = some (2001, .inl ((g 0), 40000, .inl pf)) → (∀ b, B b ≠ none → b ≠ o → S b = B b) → mp_I D classes A s.heap S H locs → lv_has ls 6 [(4, .int (nI 1000)), (3, .int (-1)), (2, .int (nI 0)), (1, .int (nI k9)), (0, .ref o)] → W p l e R s m args below meth c H locs cells slots Q (F0 m 155 ls [])) → W p l e R s m args below meth c H locs cells slots Q (F0 m 56 ls []) := by
  intro k
  induction k with
  | zero =>
    intro i S H locs ls hi h_o h_pa hfr hI hl kx
    obtain rfl : i = 1000 := by omega
    refine lv_iload hx hb d_M_take_56 (lv_at hl 0 rfl) ?_
    refine lv_sipush (v := nI 1000) hx hb d_M_take_58 (by decide) ?_
    refine lv_icmp_ge (tgt := 155) hx hb d_M_take_61 (by decide) (fun _ => ?_) (fun h9 => absurd (by decide) h9)
    exact kx S H locs ls h_o h_pa hfr hI hl
  | succ k ih =>
    intro i S H locs ls hi h_o h_pa hfr hI hl kx
    refine lv_iload hx hb d_M_take_56 (lv_at hl 0 rfl) ?_
    refine lv_sipush (v := nI 1000) hx hb d_M_take_58 (by decide) ?_
    refine lv_icmp_ge (tgt := 155) hx hb d_M_take_61 (by decide) (fun h9 => absurd h9 (by rw [nI_leI (by omega) (by omega)]; omega)) (fun _ => ?_)
    refine lv_aload_n hx hb d_M_take_64 rfl (lv_at hl 4 rfl) ?_
    refine mp_get (C := R_M) (T := F_M) (N := 31) (v := .ref pa) hx hb hg i_M hown hK.va hI h_o rfl 4 (by decide) (hg _ q_808) (fun _ h9 => h9) rfl d_M_take_65 ?_
    refine lv_sipush (v := nI 1000) hx hb d_M_take_68 (by decide) ?_
    refine lv_iload_n hx hb d_M_take_71 rfl (lv_at hl 3 rfl) ?_
    refine lv_imul hx hb d_M_take_72 ?_
    refine lv_topi (fun v1 ev1 => ?_)
    obtain rfl : v1 = nI (1000 * k9) := ev1.trans (pk_mul _ _)
    refine lv_iload hx hb d_M_take_73 (lv_at hl 0 rfl) ?_
    refine lv_iadd hx hb d_M_take_75 ?_
    refine lv_topi (fun v2 ev2 => ?_)
    obtain rfl : v2 = nI ((1000 * k9) + i) := ev2.trans (nI_add _ _)
    refine mp_iald hx hb hK.va hI 0 h_pa rfl (vp_in_nI (show 1000 * k9 + i < 40000 by omega) (by decide)) d_M_take_76 ?_
    refine lv_topi (fun v3 ev3 => ?_)
    obtain rfl : v3 = 0 := ev3.trans (by rw [nI_clamp (by omega)]; exact hz i (by omega))
    refine lv_istore (lv' := [(5, .int 0), (4, .int (nI i)), (3, .int (-1)), (2, .int (nI 0)), (1, .int (nI k9)), (0, .ref o)]) hx hb d_M_take_77 hl (by decide) rfl (fun ls hl => ?_)
    refine lv_iload hx hb d_M_take_79 (lv_at hl 0 rfl) ?_
    refine lv_if_eq (tgt := 149) hx hb d_M_take_81 (by decide) (fun _ => ?_) (fun h9 => absurd (by decide) h9)
    refine lv_iinc (v := nI (i + 1)) (lv' := [(4, .int (nI (i + 1))), (5, .int 0), (3, .int (-1)), (2, .int (nI 0)), (1, .int (nI k9)), (0, .ref o)]) hx hb d_M_take_149 hl (k := 1) rfl (nI_1 _) (by decide) rfl (fun ls hl => ?_)
    refine lv_goto (tgt := 56) hx hb d_M_take_152 (by decide) ?_
    exact ih (i + 1) S H locs ls (by omega) h_o h_pa hfr hI (lv_sub hl [0, 2, 3, 4, 5] rfl) kx
set_option maxHeartbeats 4000000 in
set_option maxRecDepth 100000 in
/-- take of a polynomial that is 0 -/
theorem c_M_take0 (l : Launch) (D : mp_G) (g : Nat → ClassId) (S : mp_M) (sz : Nat) (o pa k tk : Nat) (m0 m1 m5 m6 m7 m8 m9 m10 m11 m13 m14 m15 m16 m17 m18 m19 m20 m21 m22 m23 m24 m25 m26 m27 m28 m29 m30 : Value) (th kn : Int32) (pf : Nat → Int32) (h_o : S o = some (2000, .inr (10, [m0, m1, .int (nI tk), .int th, .ref pa, m5, m6, m7, m8, m9, m10, m11, .int kn, m13, m14, m15, m16, m17, m18, m19, m20, m21, m22, m23, m24, m25, m26, m27, m28, m29, m30]))) (h_pa : S pa = some (2001, .inl ((g 0), 40000, .inl pf))) (hk : k < 40) (htk : tk < 12) (hz : ∀ j, j < 1000 → pf (1000 * k + j) = 0) : Met l y_M_take w_M_take ({ frames := 1, cells := 0, slots := 0, locals := 20 }) (va_Pc [.ref o, .int (nI k)] (mp_B0 D classes (tys g) S sz)) (va_Qi (fun (r : Int32) (S1 : mp_M) => r = 1 ∧ S1 o = some (2000, .inr (10, [m0, m1, .int (nI (tk + 1)), .int (nI 0), .ref pa, m5, m6, m7, m8, m9, m10, m11, .int (nI 0), m13, m14, m15, m16, m17, m18, m19, m20, m21, m22, m23, m24, m25, m26, m27, m28, m29, m30])) ∧ (∀ b, S b ≠ none → b ≠ o → S1 b = S b)) (mp_B1 D classes S sz) (mp_A S sz)) 0 0 (mp_A S sz) := by
  refine Met.ofW (cc := b_M_take) (maxL := 6) (ret := (some .boolean)) (by decide) rfl ?_
  intro p e s m args below meth c s₁ B hml hv
  obtain ⟨rfl, hsz, hH, hK⟩ := hv
  have hx := B.exec
  have hb := B.bytes
  have hr := B.returns
  have hts := atoms_spec (ws := w_M_take) B.pre
  have hg : ∀ w ∈ gw, w.before _ s = true := fun w h => hts w (List.mem_cons_of_mem _ h)
  have hown : s.vm.findClass R_M = some m.cls := findClass_of_methodNamed B.named
  have hlocks := B.notSynchronized
  subst hsz
  have hI := mp_I.start hH
  have hl := lv_entry ([.ref o, .int (nI k)]) (n := 6) (Nat.le_of_ble_eq_true rfl)
  rw [lg_entry_eq]
  generalize (lg_sl ([.ref o, .int (nI k)]) ++ List.replicate (6 - (lg_sl ([.ref o, .int (nI k)])).length) Slot.unset).toArray = ls at hl ⊢
  have hl : lv_has ls 6 [(0, .ref o), (1, .int (nI k))] := hl
  have hfr : ∀ b, S b ≠ none → b ≠ o → S b = S b := fun _ _ _ => rfl
  refine lv_aload_n hx hb d_M_take_0 rfl (lv_at hl 0 rfl) ?_
  refine lv_iload_n hx hb d_M_take_1 rfl (lv_at hl 1 rfl) ?_
  refine mp_calli hI (va_runS (As := [.int (nI k)]) (rest := [.ref o]) ⟨hx, hb, hml, hown, hg⟩ (c_M_isPoly l D g S _ k hk) ⟨(callB_of 1 hg (wd_goodG q_913) rfl rfl rfl (hg _ q_5) (hg _ q_911) (by decide +kernel) ⟨Nat.le_of_ble_eq_true rfl, Nat.le_of_ble_eq_true rfl⟩), hg _ q_912⟩ (mp_pre hI hK [.int (nI k)]) rfl rfl hl.1 rfl (lv_room (Nat.le_of_ble_eq_true rfl)) d_M_take_2 ⟨Nat.le_of_ble_eq_true rfl, Nat.le_of_ble_eq_true rfl⟩) (fun r4 S1 H2 locs p_3 hI => ?_)
  obtain ⟨er4, eS5⟩ := p_3
  rw [eS5] at hI
  have er4 : r4 = 1 := er4
  subst er4
  refine lv_if_eq (tgt := 12) hx hb d_M_take_5 (by decide) (fun h9 => absurd h9 (by decide)) (fun _ => ?_)
  refine lv_iconst (v := nI 0) hx hb d_M_take_8 (by decide) ?_
  refine lv_goto (tgt := 13) hx hb d_M_take_9 (by decide) ?_
  refine mp_put (C := R_M) (T := F_M) (N := 31) (v := .int (nI 0)) (ty := .int) hx hb hg i_M t_M t_M_ok n_M hown hK.va hI h_o rfl 3 (by decide) (hg _ q_807) (fun _ h9 => h9) rfl (by decide +kernel) (rfl) rfl (Nat.le_of_ble_eq_true rfl) d_M_take_13 (fun S6 H7 locs e_8 hI => ?_)
  have e_8 : S6 = va_up S o (some (2000, .inr (10, [m0, m1, .int (nI tk), .int (nI 0), .ref pa, m5, m6, m7, m8, m9, m10, m11, .int kn, m13, m14, m15, m16, m17, m18, m19, m20, m21, m22, m23, m24, m25, m26, m27, m28, m29, m30]))) := e_8
  have h_pa : S6 pa = some (2001, .inl ((g 0), 40000, .inl pf)) := by rw [e_8]; exact mp_keep h_pa h_o (by decide)
  have h_o : S6 o = some (2000, .inr (10, [m0, m1, .int (nI tk), .int (nI 0), .ref pa, m5, m6, m7, m8, m9, m10, m11, .int kn, m13, m14, m15, m16, m17, m18, m19, m20, m21, m22, m23, m24, m25, m26, m27, m28, m29, m30])) := by rw [e_8]; exact mp_us _ _ _
  have hfr : ∀ b, S b ≠ none → b ≠ o → S6 b = S b := fun b h9 k0 => by rw [e_8]; exact (mp_un k0).trans (hfr b h9 k0)
  refine lv_aload_n hx hb d_M_take_16 rfl (lv_at hl 0 rfl) ?_
  refine mp_get (C := R_M) (T := F_M) (N := 31) (v := .int (nI 0)) hx hb hg i_M hown hK.va hI h_o rfl 3 (by decide) (hg _ q_807) (fun _ h9 => h9) rfl d_M_take_17 ?_
  refine lv_if_ne (tgt := 32) hx hb d_M_take_20 (by decide) (fun h9 => absurd h9 (by decide)) (fun _ => ?_)
  refine lv_aload_n hx hb d_M_take_23 rfl (lv_at hl 0 rfl) ?_
  refine mp_get (C := R_M) (T := F_M) (N := 31) (v := .int (nI tk)) hx hb hg i_M hown hK.va hI h_o rfl 2 (by decide) (hg _ q_806) (fun _ h9 => h9) rfl d_M_take_24 ?_
  refine lv_bipush (v := nI 12) hx hb d_M_take_27 (by decide) ?_
  refine lv_icmp_ne (tgt := 34) hx hb d_M_take_29 (by decide) (fun _ => ?_) (fun h9 => absurd h9 (fun h9 => absurd ((nI_eq (by omega) (by omega)).mp h9) (by omega)))
  refine lv_aload_n hx hb d_M_take_34 rfl (lv_at hl 0 rfl) ?_
  refine lv_dup hx hb d_M_take_35 rfl ?_
  refine mp_get (C := R_M) (T := F_M) (N := 31) (v := .int (nI tk)) hx hb hg i_M hown hK.va hI h_o rfl 2 (by decide) (hg _ q_806) (fun _ h9 => h9) rfl d_M_take_36 ?_
  refine lv_iconst (v := nI 1) hx hb d_M_take_39 (by decide) ?_
  refine lv_iadd hx hb d_M_take_40 ?_
  refine lv_topi (fun v9 ev9 => ?_)
  obtain rfl : v9 = nI (tk + 1) := ev9.trans (nI_add _ _)
  refine mp_put (C := R_M) (T := F_M) (N := 31) (v := .int (nI (tk + 1))) (ty := .int) hx hb hg i_M t_M t_M_ok n_M hown hK.va hI h_o rfl 2 (by decide) (hg _ q_806) (fun _ h9 => h9) rfl (by decide +kernel) (rfl) rfl (Nat.le_of_ble_eq_true rfl) d_M_take_41 (fun S10 H11 locs e_12 hI => ?_)
  have e_12 : S10 = va_up S6 o (some (2000, .inr (10, [m0, m1, .int (nI (tk + 1)), .int (nI 0), .ref pa, m5, m6, m7, m8, m9, m10, m11, .int kn, m13, m14, m15, m16, m17, m18, m19, m20, m21, m22, m23, m24, m25, m26, m27, m28, m29, m30]))) := e_12
  have h_pa : S10 pa = some (2001, .inl ((g 0), 40000, .inl pf)) := by rw [e_12]; exact mp_keep h_pa h_o (by decide)
  have h_o : S10 o = some (2000, .inr (10, [m0, m1, .int (nI (tk + 1)), .int (nI 0), .ref pa, m5, m6, m7, m8, m9, m10, m11, .int kn, m13, m14, m15, m16, m17, m18, m19, m20, m21, m22, m23, m24, m25, m26, m27, m28, m29, m30])) := by rw [e_12]; exact mp_us _ _ _
  have hfr : ∀ b, S b ≠ none → b ≠ o → S10 b = S b := fun b h9 k0 => by rw [e_12]; exact (mp_un k0).trans (hfr b h9 k0)
  refine lv_aload_n hx hb d_M_take_44 rfl (lv_at hl 0 rfl) ?_
  refine lv_iconst (v := nI 0) hx hb d_M_take_45 (by decide) ?_
  refine mp_put (C := R_M) (T := F_M) (N := 31) (v := .int (nI 0)) (ty := .boolean) hx hb hg i_M t_M t_M_ok n_M hown hK.va hI h_o rfl 12 (by decide) (hg _ q_816) (fun _ h9 => h9) rfl (by decide +kernel) (rfl) rfl (Nat.le_of_ble_eq_true rfl) d_M_take_46 (fun S13 H14 locs e_15 hI => ?_)
  have e_15 : S13 = va_up S10 o (some (2000, .inr (10, [m0, m1, .int (nI (tk + 1)), .int (nI 0), .ref pa, m5, m6, m7, m8, m9, m10, m11, .int (nI 0), m13, m14, m15, m16, m17, m18, m19, m20, m21, m22, m23, m24, m25, m26, m27, m28, m29, m30]))) := e_15
  have h_pa : S13 pa = some (2001, .inl ((g 0), 40000, .inl pf)) := by rw [e_15]; exact mp_keep h_pa h_o (by decide)
  have h_o : S13 o = some (2000, .inr (10, [m0, m1, .int (nI (tk + 1)), .int (nI 0), .ref pa, m5, m6, m7, m8, m9, m10, m11, .int (nI 0), m13, m14, m15, m16, m17, m18, m19, m20, m21, m22, m23, m24, m25, m26, m27, m28, m29, m30])) := by rw [e_15]; exact mp_us _ _ _
  have hfr : ∀ b, S b ≠ none → b ≠ o → S13 b = S b := fun b h9 k0 => by rw [e_15]; exact (mp_un k0).trans (hfr b h9 k0)
  refine lv_iconst (v := nI 0) hx hb d_M_take_49 (by decide) ?_
  refine lv_istore_n (lv' := [(2, .int (nI 0)), (0, .ref o), (1, .int (nI k))]) hx hb d_M_take_50 rfl hl (by decide) rfl (fun ls hl => ?_)
  refine lv_iconst (v := (-1)) hx hb d_M_take_51 (by decide) ?_
  refine lv_istore_n (lv' := [(3, .int (-1)), (2, .int (nI 0)), (0, .ref o), (1, .int (nI k))]) hx hb d_M_take_52 rfl hl (by decide) rfl (fun ls hl => ?_)
  refine lv_iconst (v := nI 0) hx hb d_M_take_53 (by decide) ?_
  refine lv_istore (lv' := [(4, .int (nI 0)), (3, .int (-1)), (2, .int (nI 0)), (0, .ref o), (1, .int (nI k))]) hx hb d_M_take_54 hl (by decide) rfl (fun ls hl => ?_)
  refine lp_M_take0 (B := S) (o := o) (pa := pa) (k9 := k) (tk := tk) (pf := pf) hx hb hml hg hown hK (Nat.le_of_ble_eq_true rfl) (Nat.le_of_ble_eq_true rfl) (Nat.le_of_ble_eq_true rfl) (Nat.le_of_ble_eq_true rfl) hk hz 1000 0 S13 H14 _ ls (by omega) h_o h_pa hfr hI (lv_sub hl [0, 1, 2, 4, 3] rfl) (fun S9 H9 locs9 ls9 h_o h_pa hfr hI hl => ?_)
  refine lv_iload_n hx hb d_M_take_155 rfl (lv_at hl 2 rfl) ?_
  refine lv_if_ne (tgt := 161) hx hb d_M_take_156 (by decide) (fun h9 => absurd h9 (by decide)) (fun _ => ?_)
  refine lv_iconst (v := nI 1) hx hb d_M_take_159 (by decide) ?_
  refine mp_zret hx hb hr hlocks hI (by decide) (by decide) ?_ (by decide) d_M_take_160
  exact ⟨rfl, h_o, hfr⟩
set_option maxHeartbeats 4000000 in
set_option maxRecDepth 100000 in
/-- term: no such polynomial -/
theorem c_M_termI (l : Launch) (D : mp_G) (g : Nat → ClassId) (S : mp_M) (sz : Nat) (o n : Nat) (m1 m2 m4 m5 m6 m7 m8 m9 m10 m11 m12 m13 m14 m15 m16 m17 m18 m19 m20 m21 m22 m23 m24 m25 m26 m27 m28 m29 m30 : Value) (th x y : Int32) (ab be : Int64) (h_o : S o = some (2000, .inr (10, [.int (nI n), m1, m2, .int th, m4, m5, m6, m7, m8, m9, m10, m11, m12, m13, m14, m15, m16, m17, m18, m19, m20, m21, m22, m23, m24, m25, m26, m27, m28, m29, m30]))) (hx9 : x < 0 ∨ nI 40 ≤ x) : Met l y_M_term w_M_term ({ frames := 2, cells := 0, slots := 0, locals := 44 }) (va_Pc [.ref o, .int x, .long ab, .long be, .int y] (mp_B0 D classes (tys g) S sz)) (va_Qi (fun (r : Int32) (S1 : mp_M) => S1 o = some (2000, .inr (10, [.int (nI n), m1, m2, .int (nI 1), m4, m5, m6, m7, m8, m9, m10, m11, m12, m13, m14, m15, m16, m17, m18, m19, m20, m21, m22, m23, m24, m25, m26, m27, m28, m29, m30])) ∧ (∀ b, S b ≠ none → b ≠ o → S1 b = S b)) (mp_B1 D classes S sz) (mp_A S sz)) 0 0 (mp_A S sz) := by
  refine Met.ofW (cc := b_M_term) (maxL := 10) (ret := (some .boolean)) (by decide) rfl ?_
  intro p e s m args below meth c s₁ B hml hv
  obtain ⟨rfl, hsz, hH, hK⟩ := hv
  have hx := B.exec
  have hb := B.bytes
  have hr := B.returns
  have hts := atoms_spec (ws := w_M_term) B.pre
  have hg : ∀ w ∈ gw, w.before _ s = true := fun w h => hts w (List.mem_cons_of_mem _ h)
  have hown : s.vm.findClass R_M = some m.cls := findClass_of_methodNamed B.named
  have hlocks := B.notSynchronized
  subst hsz
  have hI := mp_I.start hH
  have hl := lv_entry ([.ref o, .int x, .long ab, .long be, .int y]) (n := 10) (Nat.le_of_ble_eq_true rfl)
  rw [lg_entry_eq]
  generalize (lg_sl ([.ref o, .int x, .long ab, .long be, .int y]) ++ List.replicate (10 - (lg_sl ([.ref o, .int x, .long ab, .long be, .int y])).length) Slot.unset).toArray = ls at hl ⊢
  have hl : lv_has ls 10 [(0, .ref o), (1, .int x), (2, .long ab), (4, .long be), (6, .int y)] := hl
  have hfr : ∀ b, S b ≠ none → b ≠ o → S b = S b := fun _ _ _ => rfl
  refine lv_aload_n hx hb d_M_term_0 rfl (lv_at hl 0 rfl) ?_
  refine lv_iload_n hx hb d_M_term_1 rfl (lv_at hl 1 rfl) ?_
  refine mp_calli hI (va_runS (As := [.int x]) (rest := [.ref o]) ⟨hx, hb, hml, hown, hg⟩ (c_M_isPolyN l D g S _ x hx9) ⟨(callB_of 1 hg (wd_goodG q_913) rfl rfl rfl (hg _ q_5) (hg _ q_911) (by decide +kernel) ⟨Nat.le_of_ble_eq_true rfl, Nat.le_of_ble_eq_true rfl⟩), hg _ q_912⟩ (mp_pre hI hK [.int x]) rfl rfl hl.1 rfl (lv_room (Nat.le_of_ble_eq_true rfl)) d_M_term_2 ⟨Nat.le_of_ble_eq_true rfl, Nat.le_of_ble_eq_true rfl⟩) (fun r4 S1 H2 locs p_3 hI => ?_)
  obtain ⟨er4, eS5⟩ := p_3
  rw [eS5] at hI
  have er4 : r4 = 0 := er4
  subst er4
  refine lv_if_ne (tgt := 12) hx hb d_M_term_5 (by decide) (fun h9 => absurd h9 (by decide)) (fun _ => ?_)
  refine lv_iconst (v := nI 1) hx hb d_M_term_8 (by decide) ?_
  refine lv_goto (tgt := 38) hx hb d_M_term_9 (by decide) ?_
  refine mp_put (C := R_M) (T := F_M) (N := 31) (v := .int (nI 1)) (ty := .int) hx hb hg i_M t_M t_M_ok n_M hown hK.va hI h_o rfl 3 (by decide) (hg _ q_807) (fun _ h9 => h9) rfl (by decide +kernel) (rfl) rfl (Nat.le_of_ble_eq_true rfl) d_M_term_38 (fun S6 H7 locs e_8 hI => ?_)
  have e_8 : S6 = va_up S o (some (2000, .inr (10, [.int (nI n), m1, m2, .int (nI 1), m4, m5, m6, m7, m8, m9, m10, m11, m12, m13, m14, m15, m16, m17, m18, m19, m20, m21, m22, m23, m24, m25, m26, m27, m28, m29, m30]))) := e_8
  have h_o : S6 o = some (2000, .inr (10, [.int (nI n), m1, m2, .int (nI 1), m4, m5, m6, m7, m8, m9, m10, m11, m12, m13, m14, m15, m16, m17, m18, m19, m20, m21, m22, m23, m24, m25, m26, m27, m28, m29, m30])) := by rw [e_8]; exact mp_us _ _ _
  have hfr : ∀ b, S b ≠ none → b ≠ o → S6 b = S b := fun b h9 k0 => by rw [e_8]; exact (mp_un k0).trans (hfr b h9 k0)
  refine lv_aload_n hx hb d_M_term_41 rfl (lv_at hl 0 rfl) ?_
  refine mp_get (C := R_M) (T := F_M) (N := 31) (v := .int (nI 1)) hx hb hg i_M hown hK.va hI h_o rfl 3 (by decide) (hg _ q_807) (fun _ h9 => h9) rfl d_M_term_42 ?_
  refine lv_if_eq (tgt := 50) hx hb d_M_term_45 (by decide) (fun h9 => absurd h9 (by decide)) (fun _ => ?_)
  refine lv_iconst (v := nI 0) hx hb d_M_term_48 (by decide) ?_
  refine mp_zret hx hb hr hlocks hI (by decide) (by decide) ?_ (by decide) d_M_term_49
  exact ⟨h_o, hfr⟩
set_option maxHeartbeats 4000000 in
set_option maxRecDepth 100000 in
/-- term: a power below 0 -/
theorem c_M_termN (l : Launch) (D : mp_G) (g : Nat → ClassId) (S : mp_M) (sz : Nat) (o n k : Nat) (m1 m2 m4 m5 m6 m7 m8 m9 m10 m11 m12 m13 m14 m15 m16 m17 m18 m19 m20 m21 m22 m23 m24 m25 m26 m27 m28 m29 m30 : Value) (th y : Int32) (ab be : Int64) (h_o : S o = some (2000, .inr (10, [.int (nI n), m1, m2, .int th, m4, m5, m6, m7, m8, m9, m10, m11, m12, m13, m14, m15, m16, m17, m18, m19, m20, m21, m22, m23, m24, m25, m26, m27, m28, m29, m30]))) (hk : k < 40) (hy : y < 0) : Met l y_M_term w_M_term ({ frames := 2, cells := 0, slots := 0, locals := 44 }) (va_Pc [.ref o, .int (nI k), .long ab, .long be, .int y] (mp_B0 D classes (tys g) S sz)) (va_Qi (fun (r : Int32) (S1 : mp_M) => S1 o = some (2000, .inr (10, [.int (nI n), m1, m2, .int (nI 2), m4, m5, m6, m7, m8, m9, m10, m11, m12, m13, m14, m15, m16, m17, m18, m19, m20, m21, m22, m23, m24, m25, m26, m27, m28, m29, m30])) ∧ (∀ b, S b ≠ none → b ≠ o → S1 b = S b)) (mp_B1 D classes S sz) (mp_A S sz)) 0 0 (mp_A S sz) := by
  refine Met.ofW (cc := b_M_term) (maxL := 10) (ret := (some .boolean)) (by decide) rfl ?_
  intro p e s m args below meth c s₁ B hml hv
  obtain ⟨rfl, hsz, hH, hK⟩ := hv
  have hx := B.exec
  have hb := B.bytes
  have hr := B.returns
  have hts := atoms_spec (ws := w_M_term) B.pre
  have hg : ∀ w ∈ gw, w.before _ s = true := fun w h => hts w (List.mem_cons_of_mem _ h)
  have hown : s.vm.findClass R_M = some m.cls := findClass_of_methodNamed B.named
  have hlocks := B.notSynchronized
  subst hsz
  have hI := mp_I.start hH
  have hl := lv_entry ([.ref o, .int (nI k), .long ab, .long be, .int y]) (n := 10) (Nat.le_of_ble_eq_true rfl)
  rw [lg_entry_eq]
  generalize (lg_sl ([.ref o, .int (nI k), .long ab, .long be, .int y]) ++ List.replicate (10 - (lg_sl ([.ref o, .int (nI k), .long ab, .long be, .int y])).length) Slot.unset).toArray = ls at hl ⊢
  have hl : lv_has ls 10 [(0, .ref o), (1, .int (nI k)), (2, .long ab), (4, .long be), (6, .int y)] := hl
  have hfr : ∀ b, S b ≠ none → b ≠ o → S b = S b := fun _ _ _ => rfl
  refine lv_aload_n hx hb d_M_term_0 rfl (lv_at hl 0 rfl) ?_
  refine lv_iload_n hx hb d_M_term_1 rfl (lv_at hl 1 rfl) ?_
  refine mp_calli hI (va_runS (As := [.int (nI k)]) (rest := [.ref o]) ⟨hx, hb, hml, hown, hg⟩ (c_M_isPoly l D g S _ k hk) ⟨(callB_of 1 hg (wd_goodG q_913) rfl rfl rfl (hg _ q_5) (hg _ q_911) (by decide +kernel) ⟨Nat.le_of_ble_eq_true rfl, Nat.le_of_ble_eq_true rfl⟩), hg _ q_912⟩ (mp_pre hI hK [.int (nI k)]) rfl rfl hl.1 rfl (lv_room (Nat.le_of_ble_eq_true rfl)) d_M_term_2 ⟨Nat.le_of_ble_eq_true rfl, Nat.le_of_ble_eq_true rfl⟩) (fun r4 S1 H2 locs p_3 hI => ?_)
  obtain ⟨er4, eS5⟩ := p_3
  rw [eS5] at hI
  have er4 : r4 = 1 := er4
  subst er4
  refine lv_if_ne (tgt := 12) hx hb d_M_term_5 (by decide) (fun _ => ?_) (fun h9 => absurd h9 (by decide))
  refine lv_aload_n hx hb d_M_term_12 rfl (lv_at hl 0 rfl) ?_
  refine lv_iload hx hb d_M_term_13 (lv_at hl 4 rfl) ?_
  refine mp_calli hI (va_runV (As := [.int y]) (rest := [.ref o]) ⟨hx, hb, hml, hown, hg⟩ (c_M_isPowerN l D g S _ o n m1 m2 (.int th) m4 m5 m6 m7 m8 m9 m10 m11 m12 m13 m14 m15 m16 m17 m18 m19 m20 m21 m22 m23 m24 m25 m26 m27 m28 m29 m30 y h_o hy) ⟨(callB_of 1 hg (wd_goodG q_917) rfl rfl rfl (hg _ q_5) (hg _ q_914) (by decide +kernel) ⟨Nat.le_of_ble_eq_true rfl, Nat.le_of_ble_eq_true rfl⟩), hg _ q_916, hg _ qs_25⟩ (mp_preV (C := R_M) (T := F_M) hI hK h_o rfl [.int y]) rfl rfl hl.1 rfl (lv_room (Nat.le_of_ble_eq_true rfl)) d_M_term_15 ⟨Nat.le_of_ble_eq_true rfl, Nat.le_of_ble_eq_true rfl⟩) (fun r9 S6 H7 locs p_8 hI => ?_)
  obtain ⟨er9, eS10⟩ := p_8
  rw [eS10] at hI
  have er9 : r9 = 0 := er9
  subst er9
  refine lv_if_ne (tgt := 25) hx hb d_M_term_18 (by decide) (fun h9 => absurd h9 (by decide)) (fun _ => ?_)
  refine lv_iconst (v := nI 2) hx hb d_M_term_21 (by decide) ?_
  refine lv_goto (tgt := 38) hx hb d_M_term_22 (by decide) ?_
  refine mp_put (C := R_M) (T := F_M) (N := 31) (v := .int (nI 2)) (ty := .int) hx hb hg i_M t_M t_M_ok n_M hown hK.va hI h_o rfl 3 (by decide) (hg _ q_807) (fun _ h9 => h9) rfl (by decide +kernel) (rfl) rfl (Nat.le_of_ble_eq_true rfl) d_M_term_38 (fun S11 H12 locs e_13 hI => ?_)
  have e_13 : S11 = va_up S o (some (2000, .inr (10, [.int (nI n), m1, m2, .int (nI 2), m4, m5, m6, m7, m8, m9, m10, m11, m12, m13, m14, m15, m16, m17, m18, m19, m20, m21, m22, m23, m24, m25, m26, m27, m28, m29, m30]))) := e_13
  have h_o : S11 o = some (2000, .inr (10, [.int (nI n), m1, m2, .int (nI 2), m4, m5, m6, m7, m8, m9, m10, m11, m12, m13, m14, m15, m16, m17, m18, m19, m20, m21, m22, m23, m24, m25, m26, m27, m28, m29, m30])) := by rw [e_13]; exact mp_us _ _ _
  have hfr : ∀ b, S b ≠ none → b ≠ o → S11 b = S b := fun b h9 k0 => by rw [e_13]; exact (mp_un k0).trans (hfr b h9 k0)
  refine lv_aload_n hx hb d_M_term_41 rfl (lv_at hl 0 rfl) ?_
  refine mp_get (C := R_M) (T := F_M) (N := 31) (v := .int (nI 2)) hx hb hg i_M hown hK.va hI h_o rfl 3 (by decide) (hg _ q_807) (fun _ h9 => h9) rfl d_M_term_42 ?_
  refine lv_if_eq (tgt := 50) hx hb d_M_term_45 (by decide) (fun h9 => absurd h9 (by decide)) (fun _ => ?_)
  refine lv_iconst (v := nI 0) hx hb d_M_term_48 (by decide) ?_
  refine mp_zret hx hb hr hlocks hI (by decide) (by decide) ?_ (by decide) d_M_term_49
  exact ⟨h_o, hfr⟩
set_option maxHeartbeats 4000000 in
set_option maxRecDepth 100000 in
/-- term: no such power -/
theorem c_M_termA (l : Launch) (D : mp_G) (g : Nat → ClassId) (S : mp_M) (sz : Nat) (o n k v : Nat) (m1 m2 m4 m5 m6 m7 m8 m9 m10 m11 m12 m13 m14 m15 m16 m17 m18 m19 m20 m21 m22 m23 m24 m25 m26 m27 m28 m29 m30 : Value) (th : Int32) (ab be : Int64) (h_o : S o = some (2000, .inr (10, [.int (nI n), m1, m2, .int th, m4, m5, m6, m7, m8, m9, m10, m11, m12, m13, m14, m15, m16, m17, m18, m19, m20, m21, m22, m23, m24, m25, m26, m27, m28, m29, m30]))) (hk : k < 40) (hv : v < 2 ^ 31) (hn : n < 4) (hn0 : 0 < n) (hp : ¬ pwOk n v) : Met l y_M_term w_M_term ({ frames := 2, cells := 0, slots := 0, locals := 44 }) (va_Pc [.ref o, .int (nI k), .long ab, .long be, .int (nI v)] (mp_B0 D classes (tys g) S sz)) (va_Qi (fun (r : Int32) (S1 : mp_M) => S1 o = some (2000, .inr (10, [.int (nI n), m1, m2, .int (nI 2), m4, m5, m6, m7, m8, m9, m10, m11, m12, m13, m14, m15, m16, m17, m18, m19, m20, m21, m22, m23, m24, m25, m26, m27, m28, m29, m30])) ∧ (∀ b, S b ≠ none → b ≠ o → S1 b = S b)) (mp_B1 D classes S sz) (mp_A S sz)) 0 0 (mp_A S sz) := by
  refine Met.ofW (cc := b_M_term) (maxL := 10) (ret := (some .boolean)) (by decide) rfl ?_
  intro p e s m args below meth c s₁ B hml hv
  obtain ⟨rfl, hsz, hH, hK⟩ := hv
  have hx := B.exec
  have hb := B.bytes
  have hr := B.returns
  have hts := atoms_spec (ws := w_M_term) B.pre
  have hg : ∀ w ∈ gw, w.before _ s = true := fun w h => hts w (List.mem_cons_of_mem _ h)
  have hown : s.vm.findClass R_M = some m.cls := findClass_of_methodNamed B.named
  have hlocks := B.notSynchronized
  subst hsz
  have hI := mp_I.start hH
  have hl := lv_entry ([.ref o, .int (nI k), .long ab, .long be, .int (nI v)]) (n := 10) (Nat.le_of_ble_eq_true rfl)
  rw [lg_entry_eq]
  generalize (lg_sl ([.ref o, .int (nI k), .long ab, .long be, .int (nI v)]) ++ List.replicate (10 - (lg_sl ([.ref o, .int (nI k), .long ab, .long be, .int (nI v)])).length) Slot.unset).toArray = ls at hl ⊢
  have hl : lv_has ls 10 [(0, .ref o), (1, .int (nI k)), (2, .long ab), (4, .long be), (6, .int (nI v))] := hl
  have hfr : ∀ b, S b ≠ none → b ≠ o → S b = S b := fun _ _ _ => rfl
  refine lv_aload_n hx hb d_M_term_0 rfl (lv_at hl 0 rfl) ?_
  refine lv_iload_n hx hb d_M_term_1 rfl (lv_at hl 1 rfl) ?_
  refine mp_calli hI (va_runS (As := [.int (nI k)]) (rest := [.ref o]) ⟨hx, hb, hml, hown, hg⟩ (c_M_isPoly l D g S _ k hk) ⟨(callB_of 1 hg (wd_goodG q_913) rfl rfl rfl (hg _ q_5) (hg _ q_911) (by decide +kernel) ⟨Nat.le_of_ble_eq_true rfl, Nat.le_of_ble_eq_true rfl⟩), hg _ q_912⟩ (mp_pre hI hK [.int (nI k)]) rfl rfl hl.1 rfl (lv_room (Nat.le_of_ble_eq_true rfl)) d_M_term_2 ⟨Nat.le_of_ble_eq_true rfl, Nat.le_of_ble_eq_true rfl⟩) (fun r4 S1 H2 locs p_3 hI => ?_)
  obtain ⟨er4, eS5⟩ := p_3
  rw [eS5] at hI
  have er4 : r4 = 1 := er4
  subst er4
  refine lv_if_ne (tgt := 12) hx hb d_M_term_5 (by decide) (fun _ => ?_) (fun h9 => absurd h9 (by decide))
  refine lv_aload_n hx hb d_M_term_12 rfl (lv_at hl 0 rfl) ?_
  refine lv_iload hx hb d_M_term_13 (lv_at hl 4 rfl) ?_
  refine mp_calli hI (va_runV (As := [.int (nI v)]) (rest := [.ref o]) ⟨hx, hb, hml, hown, hg⟩ (c_M_isPower l D g S _ o n m1 m2 (.int th) m4 m5 m6 m7 m8 m9 m10 m11 m12 m13 m14 m15 m16 m17 m18 m19 m20 m21 m22 m23 m24 m25 m26 m27 m28 m29 m30 v h_o hv hn hn0) ⟨(callB_of 1 hg (wd_goodG q_917) rfl rfl rfl (hg _ q_5) (hg _ q_914) (by decide +kernel) ⟨Nat.le_of_ble_eq_true rfl, Nat.le_of_ble_eq_true rfl⟩), hg _ q_916, hg _ qs_25⟩ (mp_preV (C := R_M) (T := F_M) hI hK h_o rfl [.int (nI v)]) rfl rfl hl.1 rfl (lv_room (Nat.le_of_ble_eq_true rfl)) d_M_term_15 ⟨Nat.le_of_ble_eq_true rfl, Nat.le_of_ble_eq_true rfl⟩) (fun r9 S6 H7 locs p_8 hI => ?_)
  obtain ⟨er9, eS10⟩ := p_8
  rw [eS10] at hI
  obtain rfl : r9 = 0 := by rcases er9 with ⟨h9, _⟩ | ⟨_, h9⟩; exact absurd h9 hp; exact h9
  refine lv_if_ne (tgt := 25) hx hb d_M_term_18 (by decide) (fun h9 => absurd h9 (by decide)) (fun _ => ?_)
  refine lv_iconst (v := nI 2) hx hb d_M_term_21 (by decide) ?_
  refine lv_goto (tgt := 38) hx hb d_M_term_22 (by decide) ?_
  refine mp_put (C := R_M) (T := F_M) (N := 31) (v := .int (nI 2)) (ty := .int) hx hb hg i_M t_M t_M_ok n_M hown hK.va hI h_o rfl 3 (by decide) (hg _ q_807) (fun _ h9 => h9) rfl (by decide +kernel) (rfl) rfl (Nat.le_of_ble_eq_true rfl) d_M_term_38 (fun S11 H12 locs e_13 hI => ?_)
  have e_13 : S11 = va_up S o (some (2000, .inr (10, [.int (nI n), m1, m2, .int (nI 2), m4, m5, m6, m7, m8, m9, m10, m11, m12, m13, m14, m15, m16, m17, m18, m19, m20, m21, m22, m23, m24, m25, m26, m27, m28, m29, m30]))) := e_13
  have h_o : S11 o = some (2000, .inr (10, [.int (nI n), m1, m2, .int (nI 2), m4, m5, m6, m7, m8, m9, m10, m11, m12, m13, m14, m15, m16, m17, m18, m19, m20, m21, m22, m23, m24, m25, m26, m27, m28, m29, m30])) := by rw [e_13]; exact mp_us _ _ _
  have hfr : ∀ b, S b ≠ none → b ≠ o → S11 b = S b := fun b h9 k0 => by rw [e_13]; exact (mp_un k0).trans (hfr b h9 k0)
  refine lv_aload_n hx hb d_M_term_41 rfl (lv_at hl 0 rfl) ?_
  refine mp_get (C := R_M) (T := F_M) (N := 31) (v := .int (nI 2)) hx hb hg i_M hown hK.va hI h_o rfl 3 (by decide) (hg _ q_807) (fun _ h9 => h9) rfl d_M_term_42 ?_
  refine lv_if_eq (tgt := 50) hx hb d_M_term_45 (by decide) (fun h9 => absurd h9 (by decide)) (fun _ => ?_)
  refine lv_iconst (v := nI 0) hx hb d_M_term_48 (by decide) ?_
  refine mp_zret hx hb hr hlocks hI (by decide) (by decide) ?_ (by decide) d_M_term_49
  exact ⟨h_o, hfr⟩
set_option maxHeartbeats 4000000 in
set_option maxRecDepth 100000 in
/-- term: below is 0 -/
theorem c_M_termM (l : Launch) (D : mp_G) (g : Nat → ClassId) (S : mp_M) (sz : Nat) (o n k v : Nat) (m1 m2 m4 m5 m6 m7 m8 m9 m10 m11 m12 m13 m14 m15 m16 m17 m18 m19 m20 m21 m22 m23 m24 m25 m26 m27 m28 m29 m30 : Value) (th : Int32) (ab be : Int64) (h_o : S o = some (2000, .inr (10, [.int (nI n), m1, m2, .int th, m4, m5, m6, m7, m8, m9, m10, m11, m12, m13, m14, m15, m16, m17, m18, m19, m20, m21, m22, m23, m24, m25, m26, m27, m28, m29, m30]))) (hk : k < 40) (hv : v < 2 ^ 31) (hn : n < 4) (hn0 : 0 < n) (hp : pwOk n v) (hz : rsN be = 0) : Met l y_M_term w_M_term ({ frames := 2, cells := 0, slots := 0, locals := 44 }) (va_Pc [.ref o, .int (nI k), .long ab, .long be, .int (nI v)] (mp_B0 D classes (tys g) S sz)) (va_Qi (fun (r : Int32) (S1 : mp_M) => S1 o = some (2000, .inr (10, [.int (nI n), m1, m2, .int (nI 3), m4, m5, m6, m7, m8, m9, m10, m11, m12, m13, m14, m15, m16, m17, m18, m19, m20, m21, m22, m23, m24, m25, m26, m27, m28, m29, m30])) ∧ (∀ b, S b ≠ none → b ≠ o → S1 b = S b)) (mp_B1 D classes S sz) (mp_A S sz)) 0 0 (mp_A S sz) := by
  refine Met.ofW (cc := b_M_term) (maxL := 10) (ret := (some .boolean)) (by decide) rfl ?_
  intro p e s m args below meth c s₁ B hml hv
  obtain ⟨rfl, hsz, hH, hK⟩ := hv
  have hx := B.exec
  have hb := B.bytes
  have hr := B.returns
  have hts := atoms_spec (ws := w_M_term) B.pre
  have hg : ∀ w ∈ gw, w.before _ s = true := fun w h => hts w (List.mem_cons_of_mem _ h)
  have hown : s.vm.findClass R_M = some m.cls := findClass_of_methodNamed B.named
  have hlocks := B.notSynchronized
  subst hsz
  have hI := mp_I.start hH
  have hl := lv_entry ([.ref o, .int (nI k), .long ab, .long be, .int (nI v)]) (n := 10) (Nat.le_of_ble_eq_true rfl)
  rw [lg_entry_eq]
  generalize (lg_sl ([.ref o, .int (nI k), .long ab, .long be, .int (nI v)]) ++ List.replicate (10 - (lg_sl ([.ref o, .int (nI k), .long ab, .long be, .int (nI v)])).length) Slot.unset).toArray = ls at hl ⊢
  have hl : lv_has ls 10 [(0, .ref o), (1, .int (nI k)), (2, .long ab), (4, .long be), (6, .int (nI v))] := hl
  have hfr : ∀ b, S b ≠ none → b ≠ o → S b = S b := fun _ _ _ => rfl
  refine lv_aload_n hx hb d_M_term_0 rfl (lv_at hl 0 rfl) ?_
  refine lv_iload_n hx hb d_M_term_1 rfl (lv_at hl 1 rfl) ?_
  refine mp_calli hI (va_runS (As := [.int (nI k)]) (rest := [.ref o]) ⟨hx, hb, hml, hown, hg⟩ (c_M_isPoly l D g S _ k hk) ⟨(callB_of 1 hg (wd_goodG q_913) rfl rfl rfl (hg _ q_5) (hg _ q_911) (by decide +kernel) ⟨Nat.le_of_ble_eq_true rfl, Nat.le_of_ble_eq_true rfl⟩), hg _ q_912⟩ (mp_pre hI hK [.int (nI k)]) rfl rfl hl.1 rfl (lv_room (Nat.le_of_ble_eq_true rfl)) d_M_term_2 ⟨Nat.le_of_ble_eq_true rfl, Nat.le_of_ble_eq_true rfl⟩) (fun r4 S1 H2 locs p_3 hI => ?_)
  obtain ⟨er4, eS5⟩ := p_3
  rw [eS5] at hI
  have er4 : r4 = 1 := er4
  subst er4
  refine lv_if_ne (tgt := 12) hx hb d_M_term_5 (by decide) (fun _ => ?_) (fun h9 => absurd h9 (by decide))
  refine lv_aload_n hx hb d_M_term_12 rfl (lv_at hl 0 rfl) ?_
  refine lv_iload hx hb d_M_term_13 (lv_at hl 4 rfl) ?_
  refine mp_calli hI (va_runV (As := [.int (nI v)]) (rest := [.ref o]) ⟨hx, hb, hml, hown, hg⟩ (c_M_isPower l D g S _ o n m1 m2 (.int th) m4 m5 m6 m7 m8 m9 m10 m11 m12 m13 m14 m15 m16 m17 m18 m19 m20 m21 m22 m23 m24 m25 m26 m27 m28 m29 m30 v h_o hv hn hn0) ⟨(callB_of 1 hg (wd_goodG q_917) rfl rfl rfl (hg _ q_5) (hg _ q_914) (by decide +kernel) ⟨Nat.le_of_ble_eq_true rfl, Nat.le_of_ble_eq_true rfl⟩), hg _ q_916, hg _ qs_25⟩ (mp_preV (C := R_M) (T := F_M) hI hK h_o rfl [.int (nI v)]) rfl rfl hl.1 rfl (lv_room (Nat.le_of_ble_eq_true rfl)) d_M_term_15 ⟨Nat.le_of_ble_eq_true rfl, Nat.le_of_ble_eq_true rfl⟩) (fun r9 S6 H7 locs p_8 hI => ?_)
  obtain ⟨er9, eS10⟩ := p_8
  rw [eS10] at hI
  obtain rfl : r9 = 1 := by rcases er9 with ⟨_, h9⟩ | ⟨h9, _⟩; exact h9; exact absurd hp h9
  refine lv_if_ne (tgt := 25) hx hb d_M_term_18 (by decide) (fun _ => ?_) (fun h9 => absurd h9 (by decide))
  refine lv_lload hx hb d_M_term_25 (lv_at hl 3 rfl) ?_
  refine mp_calli hI (va_runS (As := [.long be]) (rest := [.ref o]) ⟨hx, hb, hml, hown, hg⟩ (c_M_residue l D g S _ be) ⟨(callB_of 1 hg (wd_goodG q_920) rfl rfl rfl (hg _ q_5) (hg _ q_918) (by decide +kernel) ⟨Nat.le_of_ble_eq_true rfl, Nat.le_of_ble_eq_true rfl⟩), hg _ q_919⟩ (mp_pre hI hK [.long be]) rfl rfl hl.1 rfl (lv_room (Nat.le_of_ble_eq_true rfl)) d_M_term_27 ⟨Nat.le_of_ble_eq_true rfl, Nat.le_of_ble_eq_true rfl⟩) (fun r14 S11 H12 locs p_13 hI => ?_)
  obtain ⟨er14, eS15⟩ := p_13
  rw [eS15] at hI
  have er14 : r14 = nI (rsN be) := er14
  subst er14
  refine lv_if_ne (tgt := 37) hx hb d_M_term_30 (by decide) (fun h9 => absurd h9 (by rw [hz]; decide)) (fun _ => ?_)
  refine lv_iconst (v := nI 3) hx hb d_M_term_33 (by decide) ?_
  refine lv_goto (tgt := 38) hx hb d_M_term_34 (by decide) ?_
  refine mp_put (C := R_M) (T := F_M) (N := 31) (v := .int (nI 3)) (ty := .int) hx hb hg i_M t_M t_M_ok n_M hown hK.va hI h_o rfl 3 (by decide) (hg _ q_807) (fun _ h9 => h9) rfl (by decide +kernel) (rfl) rfl (Nat.le_of_ble_eq_true rfl) d_M_term_38 (fun S16 H17 locs e_18 hI => ?_)
  have e_18 : S16 = va_up S o (some (2000, .inr (10, [.int (nI n), m1, m2, .int (nI 3), m4, m5, m6, m7, m8, m9, m10, m11, m12, m13, m14, m15, m16, m17, m18, m19, m20, m21, m22, m23, m24, m25, m26, m27, m28, m29, m30]))) := e_18
  have h_o : S16 o = some (2000, .inr (10, [.int (nI n), m1, m2, .int (nI 3), m4, m5, m6, m7, m8, m9, m10, m11, m12, m13, m14, m15, m16, m17, m18, m19, m20, m21, m22, m23, m24, m25, m26, m27, m28, m29, m30])) := by rw [e_18]; exact mp_us _ _ _
  have hfr : ∀ b, S b ≠ none → b ≠ o → S16 b = S b := fun b h9 k0 => by rw [e_18]; exact (mp_un k0).trans (hfr b h9 k0)
  refine lv_aload_n hx hb d_M_term_41 rfl (lv_at hl 0 rfl) ?_
  refine mp_get (C := R_M) (T := F_M) (N := 31) (v := .int (nI 3)) hx hb hg i_M hown hK.va hI h_o rfl 3 (by decide) (hg _ q_807) (fun _ h9 => h9) rfl d_M_term_42 ?_
  refine lv_if_eq (tgt := 50) hx hb d_M_term_45 (by decide) (fun h9 => absurd h9 (by decide)) (fun _ => ?_)
  refine lv_iconst (v := nI 0) hx hb d_M_term_48 (by decide) ?_
  refine mp_zret hx hb hr hlocks hI (by decide) (by decide) ?_ (by decide) d_M_term_49
  exact ⟨h_o, hfr⟩
set_option maxHeartbeats 4000000 in
set_option maxRecDepth 100000 in
/-- term: a number is put -/
theorem c_M_term (l : Launch) (D : mp_G) (g : Nat → ClassId) (S : mp_M) (sz : Nat) (o pa n k v : Nat) (m1 m2 m5 m6 m7 m8 m9 m10 m11 m12 m13 m14 m15 m16 m17 m18 m19 m20 m21 m22 m23 m24 m25 m26 m27 m28 m29 m30 : Value) (th : Int32) (ab be : Int64) (pf : Nat → Int32) (h_o : S o = some (2000, .inr (10, [.int (nI n), m1, m2, .int th, .ref pa, m5, m6, m7, m8, m9, m10, m11, m12, m13, m14, m15, m16, m17, m18, m19, m20, m21, m22, m23, m24, m25, m26, m27, m28, m29, m30]))) (h_pa : S pa = some (2001, .inl ((g 0), 40000, .inl pf))) (hk : k < 40) (hv : v < 2 ^ 31) (hn : n < 4) (hn0 : 0 < n) (hp : pwOk n v) (hq : rsN be ≠ 0) : Met l y_M_term w_M_term ({ frames := 2, cells := 0, slots := 0, locals := 44 }) (va_Pc [.ref o, .int (nI k), .long ab, .long be, .int (nI v)] (mp_B0 D classes (tys g) S sz)) (va_Qi (fun (r : Int32) (S1 : mp_M) => ((pf (1000 * k + (v % 16 + 10 * (v / 16 % 16) + 100 * (v / 256))) = nI (rsN ab * (rsN be ^ 32001 % 32003) % 32003) ∧ r = 0) ∨ (pf (1000 * k + (v % 16 + 10 * (v / 16 % 16) + 100 * (v / 256))) ≠ nI (rsN ab * (rsN be ^ 32001 % 32003) % 32003) ∧ r = 1)) ∧ S1 o = some (2000, .inr (10, [.int (nI n), m1, m2, .int (nI 0), .ref pa, m5, m6, m7, m8, m9, m10, m11, m12, m13, m14, m15, m16, m17, m18, m19, m20, m21, m22, m23, m24, m25, m26, m27, m28, m29, m30])) ∧ S1 pa = some (2001, .inl ((g 0), 40000, .inl (upd pf (1000 * k + (v % 16 + 10 * (v / 16 % 16) + 100 * (v / 256))) (nI (rsN ab * (rsN be ^ 32001 % 32003) % 32003))))) ∧ (∀ b, S b ≠ none → b ≠ o → b ≠ pa → S1 b = S b)) (mp_B1 D classes S sz) (mp_A S sz)) 0 0 (mp_A S sz) := by
  refine Met.ofW (cc := b_M_term) (maxL := 10) (ret := (some .boolean)) (by decide) rfl ?_
  intro p e s m args below meth c s₁ B hml hv
  obtain ⟨rfl, hsz, hH, hK⟩ := hv
  have hx := B.exec
  have hb := B.bytes
  have hr := B.returns
  have hts := atoms_spec (ws := w_M_term) B.pre
  have hg : ∀ w ∈ gw, w.before _ s = true := fun w h => hts w (List.mem_cons_of_mem _ h)
  have hown : s.vm.findClass R_M = some m.cls := findClass_of_methodNamed B.named
  have hlocks := B.notSynchronized
  subst hsz
  have hI := mp_I.start hH
  have hl := lv_entry ([.ref o, .int (nI k), .long ab, .long be, .int (nI v)]) (n := 10) (Nat.le_of_ble_eq_true rfl)
  rw [lg_entry_eq]
  generalize (lg_sl ([.ref o, .int (nI k), .long ab, .long be, .int (nI v)]) ++ List.replicate (10 - (lg_sl ([.ref o, .int (nI k), .long ab, .long be, .int (nI v)])).length) Slot.unset).toArray = ls at hl ⊢
  have hl : lv_has ls 10 [(0, .ref o), (1, .int (nI k)), (2, .long ab), (4, .long be), (6, .int (nI v))] := hl
  have hfr : ∀ b, S b ≠ none → b ≠ o → b ≠ pa → S b = S b := fun _ _ _ _ => rfl
  refine lv_aload_n hx hb d_M_term_0 rfl (lv_at hl 0 rfl) ?_
  refine lv_iload_n hx hb d_M_term_1 rfl (lv_at hl 1 rfl) ?_
  refine mp_calli hI (va_runS (As := [.int (nI k)]) (rest := [.ref o]) ⟨hx, hb, hml, hown, hg⟩ (c_M_isPoly l D g S _ k hk) ⟨(callB_of 1 hg (wd_goodG q_913) rfl rfl rfl (hg _ q_5) (hg _ q_911) (by decide +kernel) ⟨Nat.le_of_ble_eq_true rfl, Nat.le_of_ble_eq_true rfl⟩), hg _ q_912⟩ (mp_pre hI hK [.int (nI k)]) rfl rfl hl.1 rfl (lv_room (Nat.le_of_ble_eq_true rfl)) d_M_term_2 ⟨Nat.le_of_ble_eq_true rfl, Nat.le_of_ble_eq_true rfl⟩) (fun r4 S1 H2 locs p_3 hI => ?_)
  obtain ⟨er4, eS5⟩ := p_3
  rw [eS5] at hI
  have er4 : r4 = 1 := er4
  subst er4
  refine lv_if_ne (tgt := 12) hx hb d_M_term_5 (by decide) (fun _ => ?_) (fun h9 => absurd h9 (by decide))
  refine lv_aload_n hx hb d_M_term_12 rfl (lv_at hl 0 rfl) ?_
  refine lv_iload hx hb d_M_term_13 (lv_at hl 4 rfl) ?_
  refine mp_calli hI (va_runV (As := [.int (nI v)]) (rest := [.ref o]) ⟨hx, hb, hml, hown, hg⟩ (c_M_isPower l D g S _ o n m1 m2 (.int th) (.ref pa) m5 m6 m7 m8 m9 m10 m11 m12 m13 m14 m15 m16 m17 m18 m19 m20 m21 m22 m23 m24 m25 m26 m27 m28 m29 m30 v h_o hv hn hn0) ⟨(callB_of 1 hg (wd_goodG q_917) rfl rfl rfl (hg _ q_5) (hg _ q_914) (by decide +kernel) ⟨Nat.le_of_ble_eq_true rfl, Nat.le_of_ble_eq_true rfl⟩), hg _ q_916, hg _ qs_25⟩ (mp_preV (C := R_M) (T := F_M) hI hK h_o rfl [.int (nI v)]) rfl rfl hl.1 rfl (lv_room (Nat.le_of_ble_eq_true rfl)) d_M_term_15 ⟨Nat.le_of_ble_eq_true rfl, Nat.le_of_ble_eq_true rfl⟩) (fun r9 S6 H7 locs p_8 hI => ?_)
  obtain ⟨er9, eS10⟩ := p_8
  rw [eS10] at hI
  obtain rfl : r9 = 1 := by rcases er9 with ⟨_, h9⟩ | ⟨h9, _⟩; exact h9; exact absurd hp h9
  refine lv_if_ne (tgt := 25) hx hb d_M_term_18 (by decide) (fun _ => ?_) (fun h9 => absurd h9 (by decide))
  refine lv_lload hx hb d_M_term_25 (lv_at hl 3 rfl) ?_
  refine mp_calli hI (va_runS (As := [.long be]) (rest := [.ref o]) ⟨hx, hb, hml, hown, hg⟩ (c_M_residue l D g S _ be) ⟨(callB_of 1 hg (wd_goodG q_920) rfl rfl rfl (hg _ q_5) (hg _ q_918) (by decide +kernel) ⟨Nat.le_of_ble_eq_true rfl, Nat.le_of_ble_eq_true rfl⟩), hg _ q_919⟩ (mp_pre hI hK [.long be]) rfl rfl hl.1 rfl (lv_room (Nat.le_of_ble_eq_true rfl)) d_M_term_27 ⟨Nat.le_of_ble_eq_true rfl, Nat.le_of_ble_eq_true rfl⟩) (fun r14 S11 H12 locs p_13 hI => ?_)
  obtain ⟨er14, eS15⟩ := p_13
  rw [eS15] at hI
  have er14 : r14 = nI (rsN be) := er14
  subst er14
  have hrb := rsN_lt be
  have hra := rsN_lt ab
  refine lv_if_ne (tgt := 37) hx hb d_M_term_30 (by decide) (fun _ => ?_) (fun h9 => absurd h9 (nI_ne9 (by omega) hq))
  refine lv_iconst (v := nI 0) hx hb d_M_term_37 (by decide) ?_
  refine mp_put (C := R_M) (T := F_M) (N := 31) (v := .int (nI 0)) (ty := .int) hx hb hg i_M t_M t_M_ok n_M hown hK.va hI h_o rfl 3 (by decide) (hg _ q_807) (fun _ h9 => h9) rfl (by decide +kernel) (rfl) rfl (Nat.le_of_ble_eq_true rfl) d_M_term_38 (fun S16 H17 locs e_18 hI => ?_)
  have e_18 : S16 = va_up S o (some (2000, .inr (10, [.int (nI n), m1, m2, .int (nI 0), .ref pa, m5, m6, m7, m8, m9, m10, m11, m12, m13, m14, m15, m16, m17, m18, m19, m20, m21, m22, m23, m24, m25, m26, m27, m28, m29, m30]))) := e_18
  have h_pa : S16 pa = some (2001, .inl ((g 0), 40000, .inl pf)) := by rw [e_18]; exact mp_keep h_pa h_o (by decide)
  have h_o : S16 o = some (2000, .inr (10, [.int (nI n), m1, m2, .int (nI 0), .ref pa, m5, m6, m7, m8, m9, m10, m11, m12, m13, m14, m15, m16, m17, m18, m19, m20, m21, m22, m23, m24, m25, m26, m27, m28, m29, m30])) := by rw [e_18]; exact mp_us _ _ _
  have hfr : ∀ b, S b ≠ none → b ≠ o → b ≠ pa → S16 b = S b := fun b h9 k0 k1 => by rw [e_18]; exact (mp_un k0).trans (hfr b h9 k0 k1)
  refine lv_aload_n hx hb d_M_term_41 rfl (lv_at hl 0 rfl) ?_
  refine mp_get (C := R_M) (T := F_M) (N := 31) (v := .int (nI 0)) hx hb hg i_M hown hK.va hI h_o rfl 3 (by decide) (hg _ q_807) (fun _ h9 => h9) rfl d_M_term_42 ?_
  refine lv_if_eq (tgt := 50) hx hb d_M_term_45 (by decide) (fun _ => ?_) (fun h9 => absurd (by decide) h9)
  refine lv_lload_n hx hb d_M_term_50 rfl (lv_at hl 2 rfl) ?_
  refine mp_calli hI (va_runS (As := [.long ab]) (rest := []) ⟨hx, hb, hml, hown, hg⟩ (c_M_residue l D g S16 _ ab) ⟨(callB_of 1 hg (wd_goodG q_920) rfl rfl rfl (hg _ q_5) (hg _ q_918) (by decide +kernel) ⟨Nat.le_of_ble_eq_true rfl, Nat.le_of_ble_eq_true rfl⟩), hg _ q_919⟩ (mp_pre hI hK [.long ab]) rfl rfl hl.1 rfl (lv_room (Nat.le_of_ble_eq_true rfl)) d_M_term_51 ⟨Nat.le_of_ble_eq_true rfl, Nat.le_of_ble_eq_true rfl⟩) (fun r22 S19 H20 locs p_21 hI => ?_)
  obtain ⟨er22, eS23⟩ := p_21
  rw [eS23] at hI
  have er22 : r22 = nI (rsN ab) := er22
  subst er22
  refine lv_lload hx hb d_M_term_54 (lv_at hl 3 rfl) ?_
  refine mp_calli hI (va_runS (As := [.long be]) (rest := [.int (nI (rsN ab))]) ⟨hx, hb, hml, hown, hg⟩ (c_M_residue l D g S16 _ be) ⟨(callB_of 1 hg (wd_goodG q_920) rfl rfl rfl (hg _ q_5) (hg _ q_918) (by decide +kernel) ⟨Nat.le_of_ble_eq_true rfl, Nat.le_of_ble_eq_true rfl⟩), hg _ q_919⟩ (mp_pre hI hK [.long be]) rfl rfl hl.1 rfl (lv_room (Nat.le_of_ble_eq_true rfl)) d_M_term_56 ⟨Nat.le_of_ble_eq_true rfl, Nat.le_of_ble_eq_true rfl⟩) (fun r27 S24 H25 locs p_26 hI => ?_)
  obtain ⟨er27, eS28⟩ := p_26
  rw [eS28] at hI
  have er27 : r27 = nI (rsN be) := er27
  subst er27
  refine mp_calli hI (va_runS (As := [.int (nI (rsN be))]) (rest := [.int (nI (rsN ab))]) ⟨hx, hb, hml, hown, hg⟩ (c_M_inverse l D g S16 _ (rsN be) (rsN_lt be)) ⟨(callB_of 1 hg (wd_goodG q_924) rfl rfl rfl (hg _ q_5) (hg _ q_922) (by decide +kernel) ⟨Nat.le_of_ble_eq_true rfl, Nat.le_of_ble_eq_true rfl⟩), hg _ q_923⟩ (mp_pre hI hK [.int (nI (rsN be))]) rfl rfl hl.1 rfl (lv_room (Nat.le_of_ble_eq_true rfl)) d_M_term_59 ⟨Nat.le_of_ble_eq_true rfl, Nat.le_of_ble_eq_true rfl⟩) (fun r32 S29 H30 locs p_31 hI => ?_)
  obtain ⟨er32, eS33⟩ := p_31
  rw [eS33] at hI
  have er32 : r32 = nI (rsN be ^ 32001 % 32003) := er32
  subst er32
  have hib : rsN be ^ 32001 % 32003 < 32003 := Nat.mod_lt _ (by decide)
  refine mp_calli hI (va_runS (As := [.int (nI (rsN ab)), .int (nI (rsN be ^ 32001 % 32003))]) (rest := []) ⟨hx, hb, hml, hown, hg⟩ (c_M_times l D g S16 _ (rsN ab) (rsN be ^ 32001 % 32003) (by omega) (by omega)) ⟨(callB_of 2 hg (wd_goodG q_927) rfl rfl rfl (hg _ q_5) (hg _ q_925) (by decide +kernel) ⟨Nat.le_of_ble_eq_true rfl, Nat.le_of_ble_eq_true rfl⟩), hg _ q_926⟩ (mp_pre hI hK [.int (nI (rsN ab)), .int (nI (rsN be ^ 32001 % 32003))]) rfl rfl hl.1 rfl (lv_room (Nat.le_of_ble_eq_true rfl)) d_M_term_62 ⟨Nat.le_of_ble_eq_true rfl, Nat.le_of_ble_eq_true rfl⟩) (fun r37 S34 H35 locs p_36 hI => ?_)
  obtain ⟨er37, eS38⟩ := p_36
  rw [eS38] at hI
  have er37 : r37 = nI (rsN ab * (rsN be ^ 32001 % 32003) % 32003) := er37
  subst er37
  refine lv_istore (lv' := [(7, .int (nI (rsN ab * (rsN be ^ 32001 % 32003) % 32003))), (0, .ref o), (1, .int (nI k)), (2, .long ab), (4, .long be), (6, .int (nI v))]) hx hb d_M_term_65 hl (by decide) rfl (fun ls hl => ?_)
  refine lv_sipush (v := nI 1000) hx hb d_M_term_67 (by decide) ?_
  refine lv_iload_n hx hb d_M_term_70 rfl (lv_at hl 2 rfl) ?_
  refine lv_imul hx hb d_M_term_71 ?_
  refine lv_topi (fun v39 ev39 => ?_)
  obtain rfl : v39 = nI (1000 * k) := ev39.trans (pk_mul _ _)
  refine lv_iload hx hb d_M_term_72 (lv_at hl 5 rfl) ?_
  refine mp_calli hI (va_runS (As := [.int (nI v)]) (rest := [.int (nI (1000 * k))]) ⟨hx, hb, hml, hown, hg⟩ (c_M_placeOf l D g S16 _ v hv) ⟨(callB_of 1 hg (wd_goodG q_930) rfl rfl rfl (hg _ q_5) (hg _ q_928) (by decide +kernel) ⟨Nat.le_of_ble_eq_true rfl, Nat.le_of_ble_eq_true rfl⟩), hg _ q_929⟩ (mp_pre hI hK [.int (nI v)]) rfl rfl hl.1 rfl (lv_room (Nat.le_of_ble_eq_true rfl)) d_M_term_74 ⟨Nat.le_of_ble_eq_true rfl, Nat.le_of_ble_eq_true rfl⟩) (fun r43 S40 H41 locs p_42 hI => ?_)
  obtain ⟨er43, eS44⟩ := p_42
  rw [eS44] at hI
  have er43 : r43 = nI (v % 16 + 10 * (v / 16 % 16) + 100 * (v / 256)) := er43
  subst er43
  obtain ⟨hp0, hp1, hp2, hp3⟩ := hp
  have hX9 : (rsN ab * (rsN be ^ 32001 % 32003) % 32003) < 32003 := Nat.mod_lt _ (by decide)
  refine lv_iadd hx hb d_M_term_77 ?_
  refine lv_topi (fun v45 ev45 => ?_)
  obtain rfl : v45 = nI ((1000 * k) + (v % 16 + 10 * (v / 16 % 16) + 100 * (v / 256))) := ev45.trans (nI_add _ _)
  refine lv_istore (lv' := [(8, .int (nI ((1000 * k) + (v % 16 + 10 * (v / 16 % 16) + 100 * (v / 256))))), (7, .int (nI (rsN ab * (rsN be ^ 32001 % 32003) % 32003))), (0, .ref o), (1, .int (nI k)), (2, .long ab), (4, .long be), (6, .int (nI v))]) hx hb d_M_term_78 hl (by decide) rfl (fun ls hl => ?_)
  refine lv_aload_n hx hb d_M_term_80 rfl (lv_at hl 2 rfl) ?_
  refine mp_get (C := R_M) (T := F_M) (N := 31) (v := .ref pa) hx hb hg i_M hown hK.va hI h_o rfl 4 (by decide) (hg _ q_808) (fun _ h9 => h9) rfl d_M_term_81 ?_
  refine lv_iload hx hb d_M_term_84 (lv_at hl 0 rfl) ?_
  refine mp_iald hx hb hK.va hI 0 h_pa rfl (vp_in_nI (show (1000 * k + (v % 16 + 10 * (v / 16 % 16) + 100 * (v / 256))) < 40000 by omega) (by decide)) d_M_term_86 ?_
  refine lv_topi (fun v46 ev46 => ?_)
  obtain rfl : v46 = pf (1000 * k + (v % 16 + 10 * (v / 16 % 16) + 100 * (v / 256))) := ev46.trans (by rw [nI_clamp (by omega)])
  refine lv_iload hx hb d_M_term_87 (lv_at hl 1 rfl) ?_
  refine lv_icmp_eq (tgt := 96) hx hb d_M_term_89 (by decide) (fun c1 => ?_) (fun c1 => ?_)
  · refine lv_iconst (v := nI 0) hx hb d_M_term_96 (by decide) ?_
    refine lv_istore (lv' := [(9, .int (nI 0)), (8, .int (nI ((1000 * k) + (v % 16 + 10 * (v / 16 % 16) + 100 * (v / 256))))), (7, .int (nI (rsN ab * (rsN be ^ 32001 % 32003) % 32003))), (0, .ref o), (1, .int (nI k)), (2, .long ab), (4, .long be), (6, .int (nI v))]) hx hb d_M_term_97 hl (by decide) rfl (fun ls hl => ?_)
    refine lv_aload_n hx hb d_M_term_99 rfl (lv_at hl 3 rfl) ?_
    refine mp_get (C := R_M) (T := F_M) (N := 31) (v := .ref pa) hx hb hg i_M hown hK.va hI h_o rfl 4 (by decide) (hg _ q_808) (fun _ h9 => h9) rfl d_M_term_100 ?_
    refine lv_iload hx hb d_M_term_103 (lv_at hl 1 rfl) ?_
    refine lv_iload hx hb d_M_term_105 (lv_at hl 2 rfl) ?_
    refine mp_iast hx hb hK.va hI 0 h_pa rfl (vp_in_nI (show (1000 * k + (v % 16 + 10 * (v / 16 % 16) + 100 * (v / 256))) < 40000 by omega) (by decide)) d_M_term_107 (fun S47 H48 locs e_49 hI => ?_)
    have e_49 : S47 = va_up S16 pa (some (2001, .inl ((g 0), 40000, .inl (upd pf (nI ((1000 * k) + (v % 16 + 10 * (v / 16 % 16) + 100 * (v / 256)))).toNatClampNeg (nI (rsN ab * (rsN be ^ 32001 % 32003) % 32003)))))) := e_49
    have h_o : S47 o = some (2000, .inr (10, [.int (nI n), m1, m2, .int (nI 0), .ref pa, m5, m6, m7, m8, m9, m10, m11, m12, m13, m14, m15, m16, m17, m18, m19, m20, m21, m22, m23, m24, m25, m26, m27, m28, m29, m30])) := by rw [e_49]; exact mp_keep h_o h_pa (by decide)
    have h_pa : S47 pa = some (2001, .inl ((g 0), 40000, .inl (upd pf (nI ((1000 * k) + (v % 16 + 10 * (v / 16 % 16) + 100 * (v / 256)))).toNatClampNeg (nI (rsN ab * (rsN be ^ 32001 % 32003) % 32003))))) := by rw [e_49]; exact mp_us _ _ _
    have hfr : ∀ b, S b ≠ none → b ≠ o → b ≠ pa → S47 b = S b := fun b h9 k0 k1 => by rw [e_49]; exact (mp_un k1).trans (hfr b h9 k0 k1)
    rw [nI_clamp (by omega)] at h_pa
    refine lv_iload hx hb d_M_term_108 (lv_at hl 0 rfl) ?_
    refine mp_zret hx hb hr hlocks hI (by decide) (by decide) ?_ (by decide) d_M_term_110
    exact ⟨Or.inl ⟨c1, rfl⟩, h_o, h_pa, hfr⟩
  · refine lv_iconst (v := nI 1) hx hb d_M_term_92 (by decide) ?_
    refine lv_goto (tgt := 97) hx hb d_M_term_93 (by decide) ?_
    refine lv_istore (lv' := [(9, .int (nI 1)), (8, .int (nI ((1000 * k) + (v % 16 + 10 * (v / 16 % 16) + 100 * (v / 256))))), (7, .int (nI (rsN ab * (rsN be ^ 32001 % 32003) % 32003))), (0, .ref o), (1, .int (nI k)), (2, .long ab), (4, .long be), (6, .int (nI v))]) hx hb d_M_term_97 hl (by decide) rfl (fun ls hl => ?_)
    refine lv_aload_n hx hb d_M_term_99 rfl (lv_at hl 3 rfl) ?_
    refine mp_get (C := R_M) (T := F_M) (N := 31) (v := .ref pa) hx hb hg i_M hown hK.va hI h_o rfl 4 (by decide) (hg _ q_808) (fun _ h9 => h9) rfl d_M_term_100 ?_
    refine lv_iload hx hb d_M_term_103 (lv_at hl 1 rfl) ?_
    refine lv_iload hx hb d_M_term_105 (lv_at hl 2 rfl) ?_
    refine mp_iast hx hb hK.va hI 0 h_pa rfl (vp_in_nI (show (1000 * k + (v % 16 + 10 * (v / 16 % 16) + 100 * (v / 256))) < 40000 by omega) (by decide)) d_M_term_107 (fun S50 H51 locs e_52 hI => ?_)
    have e_52 : S50 = va_up S16 pa (some (2001, .inl ((g 0), 40000, .inl (upd pf (nI ((1000 * k) + (v % 16 + 10 * (v / 16 % 16) + 100 * (v / 256)))).toNatClampNeg (nI (rsN ab * (rsN be ^ 32001 % 32003) % 32003)))))) := e_52
    have h_o : S50 o = some (2000, .inr (10, [.int (nI n), m1, m2, .int (nI 0), .ref pa, m5, m6, m7, m8, m9, m10, m11, m12, m13, m14, m15, m16, m17, m18, m19, m20, m21, m22, m23, m24, m25, m26, m27, m28, m29, m30])) := by rw [e_52]; exact mp_keep h_o h_pa (by decide)
    have h_pa : S50 pa = some (2001, .inl ((g 0), 40000, .inl (upd pf (nI ((1000 * k) + (v % 16 + 10 * (v / 16 % 16) + 100 * (v / 256)))).toNatClampNeg (nI (rsN ab * (rsN be ^ 32001 % 32003) % 32003))))) := by rw [e_52]; exact mp_us _ _ _
    have hfr : ∀ b, S b ≠ none → b ≠ o → b ≠ pa → S50 b = S b := fun b h9 k0 k1 => by rw [e_52]; exact (mp_un k1).trans (hfr b h9 k0 k1)
    rw [nI_clamp (by omega)] at h_pa
    refine lv_iload hx hb d_M_term_108 (lv_at hl 0 rfl) ?_
    refine mp_zret hx hb hr hlocks hI (by decide) (by decide) ?_ (by decide) d_M_term_110
    exact ⟨Or.inr ⟨c1, rfl⟩, h_o, h_pa, hfr⟩
