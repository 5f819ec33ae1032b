theorem dc_M_pageOf_0 : decode prog_14_method_43_code 0 = .ok (.iconst (-1), 1) := by decide +kernel
theorem dc_M_pageOf_1 : decode prog_14_method_43_code 1 = .ok (.istore_n 2, 1) := by decide +kernel
theorem dc_M_pageOf_2 : decode prog_14_method_43_code 2 = .ok (.iconst 0, 1) := by decide +kernel
theorem dc_M_pageOf_3 : decode prog_14_method_43_code 3 = .ok (.istore_n 3, 1) := by decide +kernel
theorem dc_M_pageOf_4 : decode prog_14_method_43_code 4 = .ok (.iload_n 3, 1) := by decide +kernel
theorem dc_M_pageOf_5 : decode prog_14_method_43_code 5 = .ok (.aload_n 0, 1) := by decide +kernel
theorem dc_M_pageOf_6 : decode prog_14_method_43_code 6 = .ok (.getfield 312, 3) := by decide +kernel
theorem dc_M_pageOf_9 : decode prog_14_method_43_code 9 = .ok (.if_icmp .ge 25, 3) := by decide +kernel
theorem dc_M_pageOf_12 : decode prog_14_method_43_code 12 = .ok (.aload_n 0, 1) := by decide +kernel
theorem dc_M_pageOf_13 : decode prog_14_method_43_code 13 = .ok (.getfield 315, 3) := by decide +kernel
theorem dc_M_pageOf_16 : decode prog_14_method_43_code 16 = .ok (.iload_n 3, 1) := by decide +kernel
theorem dc_M_pageOf_17 : decode prog_14_method_43_code 17 = .ok (.iaload, 1) := by decide +kernel
theorem dc_M_pageOf_18 : decode prog_14_method_43_code 18 = .ok (.iload_n 1, 1) := by decide +kernel
theorem dc_M_pageOf_19 : decode prog_14_method_43_code 19 = .ok (.if_icmp .ne 7, 3) := by decide +kernel
theorem dc_M_pageOf_22 : decode prog_14_method_43_code 22 = .ok (.iload_n 3, 1) := by decide +kernel
theorem dc_M_pageOf_23 : decode prog_14_method_43_code 23 = .ok (.goto 4, 3) := by decide +kernel
theorem dc_M_pageOf_26 : decode prog_14_method_43_code 26 = .ok (.iload_n 2, 1) := by decide +kernel
theorem dc_M_pageOf_27 : decode prog_14_method_43_code 27 = .ok (.istore_n 2, 1) := by decide +kernel
theorem dc_M_pageOf_28 : decode prog_14_method_43_code 28 = .ok (.iinc 3 1, 3) := by decide +kernel
theorem dc_M_pageOf_31 : decode prog_14_method_43_code 31 = .ok (.goto (-27), 3) := by decide +kernel
theorem dc_M_pageOf_34 : decode prog_14_method_43_code 34 = .ok (.iload_n 2, 1) := by decide +kernel
theorem dc_M_pageOf_35 : decode prog_14_method_43_code 35 = .ok (.ireturn, 1) := by decide +kernel
theorem dc_M_tell_0 : decode prog_14_method_24_code 0 = .ok (.aload_n 0, 1) := by decide +kernel
theorem dc_M_tell_1 : decode prog_14_method_24_code 1 = .ok (.getfield 131, 3) := by decide +kernel
theorem fl_M_131 : am_fl "WebFinderModel" 131 12 21 := ⟨"WebFinderModel", tt_M, 90, rfl, by decide, Or.inl (am_t7 132 rfl rfl)⟩
theorem dc_M_tell_4 : decode prog_14_method_24_code 4 = .ok (.aload_n 0, 1) := by decide +kernel
theorem dc_M_tell_5 : decode prog_14_method_24_code 5 = .ok (.getfield 134, 3) := by decide +kernel
theorem fl_M_134 : am_fl "WebFinderModel" 134 12 23 := ⟨"WebFinderModel", tt_M, 90, rfl, by decide, Or.inl (am_t7 134 rfl rfl)⟩
theorem dc_M_tell_8 : decode prog_14_method_24_code 8 = .ok (.aload_n 0, 1) := by decide +kernel
theorem dc_M_tell_9 : decode prog_14_method_24_code 9 = .ok (.getfield 137, 3) := by decide +kernel
theorem fl_M_137 : am_fl "WebFinderModel" 137 12 20 := ⟨"WebFinderModel", tt_M, 90, rfl, by decide, Or.inl (am_t7 131 rfl rfl)⟩
theorem dc_M_tell_12 : decode prog_14_method_24_code 12 = .ok (.iastore, 1) := by decide +kernel
theorem dc_M_tell_13 : decode prog_14_method_24_code 13 = .ok (.iload_n 1, 1) := by decide +kernel
theorem dc_M_tell_14 : decode prog_14_method_24_code 14 = .ok (.istore_n 3, 1) := by decide +kernel
theorem dc_M_tell_15 : decode prog_14_method_24_code 15 = .ok (.iload_n 3, 1) := by decide +kernel
theorem dc_M_tell_16 : decode prog_14_method_24_code 16 = .ok (.iload_n 2, 1) := by decide +kernel
theorem dc_M_tell_17 : decode prog_14_method_24_code 17 = .ok (.if_icmp .ge 34, 3) := by decide +kernel
theorem dc_M_tell_20 : decode prog_14_method_24_code 20 = .ok (.aload_n 0, 1) := by decide +kernel
theorem dc_M_tell_21 : decode prog_14_method_24_code 21 = .ok (.getfield 140, 3) := by decide +kernel
theorem fl_M_140 : am_fl "WebFinderModel" 140 12 19 := ⟨"WebFinderModel", tt_M, 90, rfl, by decide, Or.inl (am_t7 130 rfl rfl)⟩
theorem dc_M_tell_24 : decode prog_14_method_24_code 24 = .ok (.aload_n 0, 1) := by decide +kernel
theorem dc_M_tell_25 : decode prog_14_method_24_code 25 = .ok (.getfield 137, 3) := by decide +kernel
theorem dc_M_tell_28 : decode prog_14_method_24_code 28 = .ok (.aload_n 0, 1) := by decide +kernel
theorem dc_M_tell_29 : decode prog_14_method_24_code 29 = .ok (.getfield 143, 3) := by decide +kernel
theorem dc_M_tell_32 : decode prog_14_method_24_code 32 = .ok (.iload_n 3, 1) := by decide +kernel
theorem dc_M_tell_33 : decode prog_14_method_24_code 33 = .ok (.baload, 1) := by decide +kernel
theorem dc_M_tell_34 : decode prog_14_method_24_code 34 = .ok (.bastore, 1) := by decide +kernel
theorem dc_M_tell_35 : decode prog_14_method_24_code 35 = .ok (.aload_n 0, 1) := by decide +kernel
theorem dc_M_tell_36 : decode prog_14_method_24_code 36 = .ok (.dup, 1) := by decide +kernel
theorem dc_M_tell_37 : decode prog_14_method_24_code 37 = .ok (.getfield 137, 3) := by decide +kernel
theorem dc_M_tell_40 : decode prog_14_method_24_code 40 = .ok (.iconst 1, 1) := by decide +kernel
theorem dc_M_tell_41 : decode prog_14_method_24_code 41 = .ok (.iadd, 1) := by decide +kernel
theorem dc_M_tell_42 : decode prog_14_method_24_code 42 = .ok (.putfield 137, 3) := by decide +kernel
theorem fp_M_tell_137 : am_fp mt_M_tell.1 137 12 20 (.int) := ⟨"WebFinderModel", tt_M, 90, rfl, by decide, ct_M 20 (by decide), Or.inl ⟨(am_t7 131 rfl rfl), Or.inl rfl⟩⟩
theorem dc_M_tell_45 : decode prog_14_method_24_code 45 = .ok (.iinc 3 1, 3) := by decide +kernel
theorem dc_M_tell_48 : decode prog_14_method_24_code 48 = .ok (.goto (-33), 3) := by decide +kernel
theorem dc_M_tell_51 : decode prog_14_method_24_code 51 = .ok (.aload_n 0, 1) := by decide +kernel
theorem dc_M_tell_52 : decode prog_14_method_24_code 52 = .ok (.getfield 146, 3) := by decide +kernel
theorem fl_M_146 : am_fl "WebFinderModel" 146 12 22 := ⟨"WebFinderModel", tt_M, 90, rfl, by decide, Or.inl (am_t7 133 rfl rfl)⟩
theorem dc_M_tell_55 : decode prog_14_method_24_code 55 = .ok (.aload_n 0, 1) := by decide +kernel
theorem dc_M_tell_56 : decode prog_14_method_24_code 56 = .ok (.getfield 134, 3) := by decide +kernel
theorem dc_M_tell_59 : decode prog_14_method_24_code 59 = .ok (.aload_n 0, 1) := by decide +kernel
theorem dc_M_tell_60 : decode prog_14_method_24_code 60 = .ok (.getfield 137, 3) := by decide +kernel
theorem dc_M_tell_63 : decode prog_14_method_24_code 63 = .ok (.iastore, 1) := by decide +kernel
theorem dc_M_tell_64 : decode prog_14_method_24_code 64 = .ok (.aload_n 0, 1) := by decide +kernel
theorem dc_M_tell_65 : decode prog_14_method_24_code 65 = .ok (.dup, 1) := by decide +kernel
theorem dc_M_tell_66 : decode prog_14_method_24_code 66 = .ok (.getfield 134, 3) := by decide +kernel
theorem dc_M_tell_69 : decode prog_14_method_24_code 69 = .ok (.iconst 1, 1) := by decide +kernel
theorem dc_M_tell_70 : decode prog_14_method_24_code 70 = .ok (.iadd, 1) := by decide +kernel
theorem dc_M_tell_71 : decode prog_14_method_24_code 71 = .ok (.putfield 134, 3) := by decide +kernel
theorem fp_M_tell_134 : am_fp mt_M_tell.1 134 12 23 (.int) := ⟨"WebFinderModel", tt_M, 90, rfl, by decide, ct_M 23 (by decide), Or.inl ⟨(am_t7 134 rfl rfl), Or.inl rfl⟩⟩
theorem dc_M_tell_74 : decode prog_14_method_24_code 74 = .ok (.aload_n 0, 1) := by decide +kernel
theorem dc_M_tell_75 : decode prog_14_method_24_code 75 = .ok (.getfield 134, 3) := by decide +kernel
theorem dc_M_tell_78 : decode prog_14_method_24_code 78 = .ok (.iconst 1, 1) := by decide +kernel
theorem dc_M_tell_79 : decode prog_14_method_24_code 79 = .ok (.isub, 1) := by decide +kernel
theorem dc_M_tell_80 : decode prog_14_method_24_code 80 = .ok (.ireturn, 1) := by decide +kernel
theorem dc_M_drop_0 : decode prog_14_method_76_code 0 = .ok (.aload_n 0, 1) := by decide +kernel
theorem dc_M_drop_1 : decode prog_14_method_76_code 1 = .ok (.invokevirtual 505, 3) := by decide +kernel
theorem dc_M_drop_4 : decode prog_14_method_76_code 4 = .ok (.istore_n 1, 1) := by decide +kernel
theorem dc_M_drop_5 : decode prog_14_method_76_code 5 = .ok (.aload_n 0, 1) := by decide +kernel
theorem dc_M_drop_6 : decode prog_14_method_76_code 6 = .ok (.aload_n 0, 1) := by decide +kernel
theorem dc_M_drop_7 : decode prog_14_method_76_code 7 = .ok (.getfield 143, 3) := by decide +kernel
theorem dc_M_drop_10 : decode prog_14_method_76_code 10 = .ok (.iconst 0, 1) := by decide +kernel
theorem dc_M_drop_11 : decode prog_14_method_76_code 11 = .ok (.iload_n 1, 1) := by decide +kernel
theorem dc_M_drop_12 : decode prog_14_method_76_code 12 = .ok (.iconst (-1), 1) := by decide +kernel
theorem dc_M_drop_13 : decode prog_14_method_76_code 13 = .ok (.invokevirtual 297, 3) := by decide +kernel
theorem dc_M_drop_16 : decode prog_14_method_76_code 16 = .ok (.ifCond .eq 14, 3) := by decide +kernel
theorem dc_M_drop_19 : decode prog_14_method_76_code 19 = .ok (.aload_n 0, 1) := by decide +kernel
theorem dc_M_drop_20 : decode prog_14_method_76_code 20 = .ok (.aload_n 0, 1) := by decide +kernel
theorem dc_M_drop_21 : decode prog_14_method_76_code 21 = .ok (.invokevirtual 300, 3) := by decide +kernel
theorem dc_M_drop_24 : decode prog_14_method_76_code 24 = .ok (.invokevirtual 446, 3) := by decide +kernel
theorem dc_M_drop_27 : decode prog_14_method_76_code 27 = .ok (.goto 4, 3) := by decide +kernel
theorem dc_M_drop_30 : decode prog_14_method_76_code 30 = .ok (.iconst (-1), 1) := by decide +kernel
theorem dc_M_drop_31 : decode prog_14_method_76_code 31 = .ok (.istore_n 2, 1) := by decide +kernel
theorem dc_M_drop_32 : decode prog_14_method_76_code 32 = .ok (.iload_n 2, 1) := by decide +kernel
theorem dc_M_drop_33 : decode prog_14_method_76_code 33 = .ok (.ifCond .ge 5, 3) := by decide +kernel
theorem dc_M_drop_36 : decode prog_14_method_76_code 36 = .ok (.iconst 0, 1) := by decide +kernel
theorem dc_M_drop_37 : decode prog_14_method_76_code 37 = .ok (.ireturn, 1) := by decide +kernel
theorem dc_M_drop_38 : decode prog_14_method_76_code 38 = .ok (.aload_n 0, 1) := by decide +kernel
theorem dc_M_drop_39 : decode prog_14_method_76_code 39 = .ok (.dup, 1) := by decide +kernel
theorem dc_M_drop_40 : decode prog_14_method_76_code 40 = .ok (.getfield 312, 3) := by decide +kernel
theorem dc_M_drop_43 : decode prog_14_method_76_code 43 = .ok (.iconst 1, 1) := by decide +kernel
theorem dc_M_drop_44 : decode prog_14_method_76_code 44 = .ok (.isub, 1) := by decide +kernel
theorem dc_M_drop_45 : decode prog_14_method_76_code 45 = .ok (.putfield 312, 3) := by decide +kernel
theorem fp_M_drop_312 : am_fp mt_M_drop.1 312 12 54 (.int) := ⟨"WebFinderModel", tt_M, 90, rfl, by decide, ct_M 54 (by decide), Or.inl ⟨(am_t7 165 rfl rfl), Or.inl rfl⟩⟩
theorem dc_M_drop_48 : decode prog_14_method_76_code 48 = .ok (.aload_n 0, 1) := by decide +kernel
theorem dc_M_drop_49 : decode prog_14_method_76_code 49 = .ok (.getfield 315, 3) := by decide +kernel
theorem dc_M_drop_52 : decode prog_14_method_76_code 52 = .ok (.iload_n 2, 1) := by decide +kernel
theorem dc_M_drop_53 : decode prog_14_method_76_code 53 = .ok (.aload_n 0, 1) := by decide +kernel
theorem dc_M_drop_54 : decode prog_14_method_76_code 54 = .ok (.getfield 315, 3) := by decide +kernel
theorem dc_M_drop_57 : decode prog_14_method_76_code 57 = .ok (.aload_n 0, 1) := by decide +kernel
theorem dc_M_drop_58 : decode prog_14_method_76_code 58 = .ok (.getfield 312, 3) := by decide +kernel
theorem dc_M_drop_61 : decode prog_14_method_76_code 61 = .ok (.iaload, 1) := by decide +kernel
theorem dc_M_drop_62 : decode prog_14_method_76_code 62 = .ok (.iastore, 1) := by decide +kernel
theorem dc_M_drop_63 : decode prog_14_method_76_code 63 = .ok (.aload_n 0, 1) := by decide +kernel
theorem dc_M_drop_64 : decode prog_14_method_76_code 64 = .ok (.getfield 341, 3) := by decide +kernel
theorem dc_M_drop_67 : decode prog_14_method_76_code 67 = .ok (.iload_n 2, 1) := by decide +kernel
theorem dc_M_drop_68 : decode prog_14_method_76_code 68 = .ok (.aload_n 0, 1) := by decide +kernel
theorem dc_M_drop_69 : decode prog_14_method_76_code 69 = .ok (.getfield 341, 3) := by decide +kernel
theorem dc_M_drop_72 : decode prog_14_method_76_code 72 = .ok (.aload_n 0, 1) := by decide +kernel
theorem dc_M_drop_73 : decode prog_14_method_76_code 73 = .ok (.getfield 312, 3) := by decide +kernel
theorem dc_M_drop_76 : decode prog_14_method_76_code 76 = .ok (.iaload, 1) := by decide +kernel
theorem dc_M_drop_77 : decode prog_14_method_76_code 77 = .ok (.iastore, 1) := by decide +kernel
theorem dc_M_drop_78 : decode prog_14_method_76_code 78 = .ok (.aload_n 0, 1) := by decide +kernel
theorem dc_M_drop_79 : decode prog_14_method_76_code 79 = .ok (.getfield 344, 3) := by decide +kernel
theorem dc_M_drop_82 : decode prog_14_method_76_code 82 = .ok (.iload_n 2, 1) := by decide +kernel
theorem dc_M_drop_83 : decode prog_14_method_76_code 83 = .ok (.aload_n 0, 1) := by decide +kernel
theorem dc_M_drop_84 : decode prog_14_method_76_code 84 = .ok (.getfield 344, 3) := by decide +kernel
theorem dc_M_drop_87 : decode prog_14_method_76_code 87 = .ok (.aload_n 0, 1) := by decide +kernel
theorem dc_M_drop_88 : decode prog_14_method_76_code 88 = .ok (.getfield 312, 3) := by decide +kernel
theorem dc_M_drop_91 : decode prog_14_method_76_code 91 = .ok (.iaload, 1) := by decide +kernel
theorem dc_M_drop_92 : decode prog_14_method_76_code 92 = .ok (.iastore, 1) := by decide +kernel
theorem dc_M_drop_93 : decode prog_14_method_76_code 93 = .ok (.iconst 1, 1) := by decide +kernel
theorem dc_M_drop_94 : decode prog_14_method_76_code 94 = .ok (.ireturn, 1) := by decide +kernel
theorem dc_M_rules_0 : decode prog_14_method_77_code 0 = .ok (.aload_n 0, 1) := by decide +kernel
theorem dc_M_rules_1 : decode prog_14_method_77_code 1 = .ok (.invokevirtual 505, 3) := by decide +kernel
theorem dc_M_rules_4 : decode prog_14_method_77_code 4 = .ok (.istore_n 1, 1) := by decide +kernel
theorem dc_M_rules_5 : decode prog_14_method_77_code 5 = .ok (.aload_n 0, 1) := by decide +kernel
theorem dc_M_rules_6 : decode prog_14_method_77_code 6 = .ok (.iload_n 1, 1) := by decide +kernel
theorem dc_M_rules_7 : decode prog_14_method_77_code 7 = .ok (.invokevirtual 508, 3) := by decide +kernel
theorem dc_M_rules_10 : decode prog_14_method_77_code 10 = .ok (.ifCond .ne 5, 3) := by decide +kernel
theorem dc_M_rules_13 : decode prog_14_method_77_code 13 = .ok (.iconst (-1), 1) := by decide +kernel
theorem dc_M_rules_14 : decode prog_14_method_77_code 14 = .ok (.ireturn, 1) := by decide +kernel
theorem dc_M_rules_15 : decode prog_14_method_77_code 15 = .ok (.aload_n 0, 1) := by decide +kernel
theorem dc_M_rules_16 : decode prog_14_method_77_code 16 = .ok (.invokevirtual 300, 3) := by decide +kernel
theorem dc_M_rules_19 : decode prog_14_method_77_code 19 = .ok (.istore_n 2, 1) := by decide +kernel
theorem dc_M_rules_20 : decode prog_14_method_77_code 20 = .ok (.aload_n 0, 1) := by decide +kernel
theorem dc_M_rules_21 : decode prog_14_method_77_code 21 = .ok (.iload_n 2, 1) := by decide +kernel
theorem dc_M_rules_22 : decode prog_14_method_77_code 22 = .ok (.invokevirtual 201, 3) := by decide +kernel
theorem mo_M_rulesOf : am_mo mt_M_rulesOf 1 := ⟨⟨by decide +kernel, by decide +kernel⟩, by decide +kernel, ⟨by decide +kernel, by decide +kernel⟩, (am_t9 43 rfl rfl), (am_t1 11 rfl rfl), by decide +kernel⟩
theorem im_M_rulesOf : Cond.instanceMethod mt_M_rulesOf.1 ∈ am_gw := (am_t9 42 rfl rfl)
theorem se_M_rulesOf : Cond.selects mt_M_rulesOf.1.cls mt_M_rulesOf.1 mt_M_rulesOf.1 ∈ am_gw := am_in (List.mem_append_left _ (by decide +kernel)) rfl
theorem ln_M_201 : am_ln "WebFinderModel" 201 mt_M_rulesOf.1 := Or.inl (am_t9 40 rfl rfl)
theorem dc_M_rules_25 : decode prog_14_method_77_code 25 = .ok (.istore_n 3, 1) := by decide +kernel
theorem dc_M_rules_26 : decode prog_14_method_77_code 26 = .ok (.iload_n 3, 1) := by decide +kernel
theorem dc_M_rules_27 : decode prog_14_method_77_code 27 = .ok (.ifCond .ge 29, 3) := by decide +kernel
theorem dc_M_rules_30 : decode prog_14_method_77_code 30 = .ok (.aload_n 0, 1) := by decide +kernel
theorem dc_M_rules_31 : decode prog_14_method_77_code 31 = .ok (.getfield 149, 3) := by decide +kernel
theorem fl_M_149 : am_fl "WebFinderModel" 149 12 26 := ⟨"WebFinderModel", tt_M, 90, rfl, by decide, Or.inl (am_t7 137 rfl rfl)⟩
theorem dc_M_rules_34 : decode prog_14_method_77_code 34 = .ok (.bipush 12, 2) := by decide +kernel
theorem dc_M_rules_36 : decode prog_14_method_77_code 36 = .ok (.if_icmp .ne 5, 3) := by decide +kernel
theorem dc_M_rules_39 : decode prog_14_method_77_code 39 = .ok (.iconst (-1), 1) := by decide +kernel
theorem dc_M_rules_40 : decode prog_14_method_77_code 40 = .ok (.ireturn, 1) := by decide +kernel
theorem dc_M_rules_41 : decode prog_14_method_77_code 41 = .ok (.aload_n 0, 1) := by decide +kernel
theorem dc_M_rules_42 : decode prog_14_method_77_code 42 = .ok (.getfield 149, 3) := by decide +kernel
theorem dc_M_rules_45 : decode prog_14_method_77_code 45 = .ok (.istore_n 3, 1) := by decide +kernel
theorem dc_M_rules_46 : decode prog_14_method_77_code 46 = .ok (.aload_n 0, 1) := by decide +kernel
theorem dc_M_rules_47 : decode prog_14_method_77_code 47 = .ok (.dup, 1) := by decide +kernel
theorem dc_M_rules_48 : decode prog_14_method_77_code 48 = .ok (.getfield 149, 3) := by decide +kernel
theorem dc_M_rules_51 : decode prog_14_method_77_code 51 = .ok (.iconst 1, 1) := by decide +kernel
theorem dc_M_rules_52 : decode prog_14_method_77_code 52 = .ok (.iadd, 1) := by decide +kernel
theorem dc_M_rules_53 : decode prog_14_method_77_code 53 = .ok (.putfield 149, 3) := by decide +kernel
theorem fp_M_rules_149 : am_fp mt_M_rules.1 149 12 26 (.int) := ⟨"WebFinderModel", tt_M, 90, rfl, by decide, ct_M 26 (by decide), Or.inl ⟨(am_t7 137 rfl rfl), Or.inl rfl⟩⟩
theorem dc_M_rules_56 : decode prog_14_method_77_code 56 = .ok (.aload_n 0, 1) := by decide +kernel
theorem dc_M_rules_57 : decode prog_14_method_77_code 57 = .ok (.getfield 152, 3) := by decide +kernel
theorem fl_M_152 : am_fl "WebFinderModel" 152 12 24 := ⟨"WebFinderModel", tt_M, 90, rfl, by decide, Or.inl (am_t7 135 rfl rfl)⟩
theorem dc_M_rules_60 : decode prog_14_method_77_code 60 = .ok (.iload_n 3, 1) := by decide +kernel
theorem dc_M_rules_61 : decode prog_14_method_77_code 61 = .ok (.iload_n 2, 1) := by decide +kernel
theorem dc_M_rules_62 : decode prog_14_method_77_code 62 = .ok (.iastore, 1) := by decide +kernel
theorem dc_M_rules_63 : decode prog_14_method_77_code 63 = .ok (.aload_n 0, 1) := by decide +kernel
theorem dc_M_rules_64 : decode prog_14_method_77_code 64 = .ok (.getfield 204, 3) := by decide +kernel
theorem fl_M_204 : am_fl "WebFinderModel" 204 12 25 := ⟨"WebFinderModel", tt_M, 90, rfl, by decide, Or.inl (am_t7 136 rfl rfl)⟩
theorem dc_M_rules_67 : decode prog_14_method_77_code 67 = .ok (.iload_n 3, 1) := by decide +kernel
theorem dc_M_rules_68 : decode prog_14_method_77_code 68 = .ok (.aload_n 0, 1) := by decide +kernel
theorem dc_M_rules_69 : decode prog_14_method_77_code 69 = .ok (.aload_n 0, 1) := by decide +kernel
theorem dc_M_rules_70 : decode prog_14_method_77_code 70 = .ok (.iload_n 1, 1) := by decide +kernel
theorem dc_M_rules_71 : decode prog_14_method_77_code 71 = .ok (.invokevirtual 511, 3) := by decide +kernel
theorem dc_M_rules_74 : decode prog_14_method_77_code 74 = .ok (.iload_n 1, 1) := by decide +kernel
theorem dc_M_rules_75 : decode prog_14_method_77_code 75 = .ok (.invokevirtual 514, 3) := by decide +kernel
theorem dc_M_rules_78 : decode prog_14_method_77_code 78 = .ok (.iastore, 1) := by decide +kernel
theorem dc_M_rules_79 : decode prog_14_method_77_code 79 = .ok (.aload_n 0, 1) := by decide +kernel
theorem dc_M_rules_80 : decode prog_14_method_77_code 80 = .ok (.iload_n 2, 1) := by decide +kernel
theorem dc_M_rules_81 : decode prog_14_method_77_code 81 = .ok (.invokevirtual 439, 3) := by decide +kernel
theorem mo_M_judge : am_mo mt_M_judge 1 := ⟨⟨by decide +kernel, by decide +kernel⟩, by decide +kernel, ⟨by decide +kernel, by decide +kernel⟩, (am_t9 51 rfl rfl), (am_t1 11 rfl rfl), by decide +kernel⟩
theorem im_M_judge : Cond.instanceMethod mt_M_judge.1 ∈ am_gw := (am_t9 50 rfl rfl)
theorem se_M_judge : Cond.selects mt_M_judge.1.cls mt_M_judge.1 mt_M_judge.1 ∈ am_gw := am_in (List.mem_append_left _ (by decide +kernel)) rfl
theorem ln_M_439 : am_ln "WebFinderModel" 439 mt_M_judge.1 := Or.inl (am_t9 48 rfl rfl)
theorem dc_M_rules_84 : decode prog_14_method_77_code 84 = .ok (.aload_n 0, 1) := by decide +kernel
theorem dc_M_rules_85 : decode prog_14_method_77_code 85 = .ok (.getfield 194, 3) := by decide +kernel
theorem fl_M_194 : am_fl "WebFinderModel" 194 12 33 := ⟨"WebFinderModel", tt_M, 90, rfl, by decide, Or.inl (am_t7 144 rfl rfl)⟩
theorem dc_M_rules_88 : decode prog_14_method_77_code 88 = .ok (.ireturn, 1) := by decide +kernel
theorem dc_M_rulesOf_0 : decode prog_14_method_26_code 0 = .ok (.iconst (-1), 1) := by decide +kernel
theorem dc_M_rulesOf_1 : decode prog_14_method_26_code 1 = .ok (.istore_n 2, 1) := by decide +kernel
theorem dc_M_rulesOf_2 : decode prog_14_method_26_code 2 = .ok (.iconst 0, 1) := by decide +kernel
theorem dc_M_rulesOf_3 : decode prog_14_method_26_code 3 = .ok (.istore_n 3, 1) := by decide +kernel
theorem dc_M_rulesOf_4 : decode prog_14_method_26_code 4 = .ok (.iload_n 3, 1) := by decide +kernel
theorem dc_M_rulesOf_5 : decode prog_14_method_26_code 5 = .ok (.aload_n 0, 1) := by decide +kernel
theorem dc_M_rulesOf_6 : decode prog_14_method_26_code 6 = .ok (.getfield 149, 3) := by decide +kernel
theorem dc_M_rulesOf_9 : decode prog_14_method_26_code 9 = .ok (.if_icmp .ge 29, 3) := by decide +kernel
theorem dc_M_rulesOf_12 : decode prog_14_method_26_code 12 = .ok (.aload_n 0, 1) := by decide +kernel
theorem dc_M_rulesOf_13 : decode prog_14_method_26_code 13 = .ok (.aload_n 0, 1) := by decide +kernel
theorem dc_M_rulesOf_14 : decode prog_14_method_26_code 14 = .ok (.getfield 152, 3) := by decide +kernel
theorem dc_M_rulesOf_17 : decode prog_14_method_26_code 17 = .ok (.iload_n 3, 1) := by decide +kernel
theorem dc_M_rulesOf_18 : decode prog_14_method_26_code 18 = .ok (.iaload, 1) := by decide +kernel
theorem dc_M_rulesOf_19 : decode prog_14_method_26_code 19 = .ok (.iload_n 1, 1) := by decide +kernel
theorem dc_M_rulesOf_20 : decode prog_14_method_26_code 20 = .ok (.invokevirtual 155, 3) := by decide +kernel
theorem mo_M_isSameSite : am_mo mt_M_isSameSite 2 := ⟨⟨by decide +kernel, by decide +kernel⟩, by decide +kernel, ⟨by decide +kernel, by decide +kernel⟩, (am_t9 47 rfl rfl), (am_t1 11 rfl rfl), by decide +kernel⟩
theorem im_M_isSameSite : Cond.instanceMethod mt_M_isSameSite.1 ∈ am_gw := (am_t9 46 rfl rfl)
theorem se_M_isSameSite : Cond.selects mt_M_isSameSite.1.cls mt_M_isSameSite.1 mt_M_isSameSite.1 ∈ am_gw := am_in (List.mem_append_left _ (by decide +kernel)) rfl
theorem ln_M_155 : am_ln "WebFinderModel" 155 mt_M_isSameSite.1 := Or.inl (am_t9 44 rfl rfl)
theorem dc_M_rulesOf_23 : decode prog_14_method_26_code 23 = .ok (.ifCond .eq 7, 3) := by decide +kernel
theorem dc_M_rulesOf_26 : decode prog_14_method_26_code 26 = .ok (.iload_n 3, 1) := by decide +kernel
theorem dc_M_rulesOf_27 : decode prog_14_method_26_code 27 = .ok (.goto 4, 3) := by decide +kernel
theorem dc_M_rulesOf_30 : decode prog_14_method_26_code 30 = .ok (.iload_n 2, 1) := by decide +kernel
theorem dc_M_rulesOf_31 : decode prog_14_method_26_code 31 = .ok (.istore_n 2, 1) := by decide +kernel
theorem dc_M_rulesOf_32 : decode prog_14_method_26_code 32 = .ok (.iinc 3 1, 3) := by decide +kernel
theorem dc_M_rulesOf_35 : decode prog_14_method_26_code 35 = .ok (.goto (-31), 3) := by decide +kernel
theorem dc_M_rulesOf_38 : decode prog_14_method_26_code 38 = .ok (.iload_n 2, 1) := by decide +kernel
theorem dc_M_rulesOf_39 : decode prog_14_method_26_code 39 = .ok (.ireturn, 1) := by decide +kernel
theorem dc_M_isSameSite_0 : decode prog_14_method_13_code 0 = .ok (.aload_n 0, 1) := by decide +kernel
theorem dc_M_isSameSite_1 : decode prog_14_method_13_code 1 = .ok (.iload_n 1, 1) := by decide +kernel
theorem dc_M_isSameSite_2 : decode prog_14_method_13_code 2 = .ok (.invokevirtual 52, 3) := by decide +kernel
theorem dc_M_isSameSite_5 : decode prog_14_method_13_code 5 = .ok (.aload_n 0, 1) := by decide +kernel
theorem dc_M_isSameSite_6 : decode prog_14_method_13_code 6 = .ok (.getfield 31, 3) := by decide +kernel
theorem dc_M_isSameSite_9 : decode prog_14_method_13_code 9 = .ok (.iload_n 1, 1) := by decide +kernel
theorem dc_M_isSameSite_10 : decode prog_14_method_13_code 10 = .ok (.iaload, 1) := by decide +kernel
theorem dc_M_isSameSite_11 : decode prog_14_method_13_code 11 = .ok (.isub, 1) := by decide +kernel
theorem dc_M_isSameSite_12 : decode prog_14_method_13_code 12 = .ok (.istore_n 3, 1) := by decide +kernel
theorem dc_M_isSameSite_13 : decode prog_14_method_13_code 13 = .ok (.aload_n 0, 1) := by decide +kernel
theorem dc_M_isSameSite_14 : decode prog_14_method_13_code 14 = .ok (.iload_n 2, 1) := by decide +kernel
theorem dc_M_isSameSite_15 : decode prog_14_method_13_code 15 = .ok (.invokevirtual 52, 3) := by decide +kernel
theorem dc_M_isSameSite_18 : decode prog_14_method_13_code 18 = .ok (.aload_n 0, 1) := by decide +kernel
theorem dc_M_isSameSite_19 : decode prog_14_method_13_code 19 = .ok (.getfield 31, 3) := by decide +kernel
theorem dc_M_isSameSite_22 : decode prog_14_method_13_code 22 = .ok (.iload_n 2, 1) := by decide +kernel
theorem dc_M_isSameSite_23 : decode prog_14_method_13_code 23 = .ok (.iaload, 1) := by decide +kernel
theorem dc_M_isSameSite_24 : decode prog_14_method_13_code 24 = .ok (.isub, 1) := by decide +kernel
theorem dc_M_isSameSite_25 : decode prog_14_method_13_code 25 = .ok (.iload_n 3, 1) := by decide +kernel
theorem dc_M_isSameSite_26 : decode prog_14_method_13_code 26 = .ok (.if_icmp .ne 7, 3) := by decide +kernel
theorem dc_M_isSameSite_29 : decode prog_14_method_13_code 29 = .ok (.iconst 1, 1) := by decide +kernel
theorem dc_M_isSameSite_30 : decode prog_14_method_13_code 30 = .ok (.goto 4, 3) := by decide +kernel
theorem dc_M_isSameSite_33 : decode prog_14_method_13_code 33 = .ok (.iconst 0, 1) := by decide +kernel
theorem dc_M_isSameSite_34 : decode prog_14_method_13_code 34 = .ok (.istore 4, 2) := by decide +kernel
theorem dc_M_isSameSite_36 : decode prog_14_method_13_code 36 = .ok (.iconst 0, 1) := by decide +kernel
theorem dc_M_isSameSite_37 : decode prog_14_method_13_code 37 = .ok (.istore 5, 2) := by decide +kernel
theorem dc_M_isSameSite_39 : decode prog_14_method_13_code 39 = .ok (.iload 5, 2) := by decide +kernel
theorem dc_M_isSameSite_41 : decode prog_14_method_13_code 41 = .ok (.iload_n 3, 1) := by decide +kernel
theorem dc_M_isSameSite_42 : decode prog_14_method_13_code 42 = .ok (.if_icmp .ge 52, 3) := by decide +kernel
theorem dc_M_isSameSite_45 : decode prog_14_method_13_code 45 = .ok (.iload 4, 2) := by decide +kernel
theorem dc_M_isSameSite_47 : decode prog_14_method_13_code 47 = .ok (.ifCond .eq 47, 3) := by decide +kernel
theorem dc_M_isSameSite_50 : decode prog_14_method_13_code 50 = .ok (.aload_n 0, 1) := by decide +kernel
theorem dc_M_isSameSite_51 : decode prog_14_method_13_code 51 = .ok (.getfield 41, 3) := by decide +kernel
theorem dc_M_isSameSite_54 : decode prog_14_method_13_code 54 = .ok (.aload_n 0, 1) := by decide +kernel
theorem dc_M_isSameSite_55 : decode prog_14_method_13_code 55 = .ok (.getfield 31, 3) := by decide +kernel
theorem dc_M_isSameSite_58 : decode prog_14_method_13_code 58 = .ok (.iload_n 1, 1) := by decide +kernel
theorem dc_M_isSameSite_59 : decode prog_14_method_13_code 59 = .ok (.iaload, 1) := by decide +kernel
theorem dc_M_isSameSite_60 : decode prog_14_method_13_code 60 = .ok (.iload 5, 2) := by decide +kernel
theorem dc_M_isSameSite_62 : decode prog_14_method_13_code 62 = .ok (.iadd, 1) := by decide +kernel
theorem dc_M_isSameSite_63 : decode prog_14_method_13_code 63 = .ok (.baload, 1) := by decide +kernel
theorem dc_M_isSameSite_64 : decode prog_14_method_13_code 64 = .ok (.aload_n 0, 1) := by decide +kernel
theorem dc_M_isSameSite_65 : decode prog_14_method_13_code 65 = .ok (.getfield 41, 3) := by decide +kernel
theorem dc_M_isSameSite_68 : decode prog_14_method_13_code 68 = .ok (.aload_n 0, 1) := by decide +kernel
theorem dc_M_isSameSite_69 : decode prog_14_method_13_code 69 = .ok (.getfield 31, 3) := by decide +kernel
theorem dc_M_isSameSite_72 : decode prog_14_method_13_code 72 = .ok (.iload_n 2, 1) := by decide +kernel
theorem dc_M_isSameSite_73 : decode prog_14_method_13_code 73 = .ok (.iaload, 1) := by decide +kernel
theorem dc_M_isSameSite_74 : decode prog_14_method_13_code 74 = .ok (.iload 5, 2) := by decide +kernel
theorem dc_M_isSameSite_76 : decode prog_14_method_13_code 76 = .ok (.iadd, 1) := by decide +kernel
theorem dc_M_isSameSite_77 : decode prog_14_method_13_code 77 = .ok (.baload, 1) := by decide +kernel
theorem dc_M_isSameSite_78 : decode prog_14_method_13_code 78 = .ok (.if_icmp .ne 7, 3) := by decide +kernel
theorem dc_M_isSameSite_81 : decode prog_14_method_13_code 81 = .ok (.iconst 1, 1) := by decide +kernel
theorem dc_M_isSameSite_82 : decode prog_14_method_13_code 82 = .ok (.goto 4, 3) := by decide +kernel
theorem dc_M_isSameSite_85 : decode prog_14_method_13_code 85 = .ok (.iconst 0, 1) := by decide +kernel
theorem dc_M_isSameSite_86 : decode prog_14_method_13_code 86 = .ok (.istore 4, 2) := by decide +kernel
theorem dc_M_isSameSite_88 : decode prog_14_method_13_code 88 = .ok (.iinc 5 1, 3) := by decide +kernel
theorem dc_M_isSameSite_91 : decode prog_14_method_13_code 91 = .ok (.goto (-52), 3) := by decide +kernel
theorem dc_M_isSameSite_94 : decode prog_14_method_13_code 94 = .ok (.iload 4, 2) := by decide +kernel
theorem dc_M_isSameSite_96 : decode prog_14_method_13_code 96 = .ok (.ireturn, 1) := by decide +kernel
theorem dc_M_judge_0 : decode prog_14_method_31_code 0 = .ok (.aload_n 0, 1) := by decide +kernel
theorem dc_M_judge_1 : decode prog_14_method_31_code 1 = .ok (.iconst 0, 1) := by decide +kernel
theorem dc_M_judge_2 : decode prog_14_method_31_code 2 = .ok (.putfield 194, 3) := by decide +kernel
theorem fp_M_judge_194 : am_fp mt_M_judge.1 194 12 33 (.int) := ⟨"WebFinderModel", tt_M, 90, rfl, by decide, ct_M 33 (by decide), Or.inl ⟨(am_t7 144 rfl rfl), Or.inl rfl⟩⟩
theorem dc_M_judge_5 : decode prog_14_method_31_code 5 = .ok (.aload_n 0, 1) := by decide +kernel
theorem dc_M_judge_6 : decode prog_14_method_31_code 6 = .ok (.iconst 1, 1) := by decide +kernel
theorem dc_M_judge_7 : decode prog_14_method_31_code 7 = .ok (.putfield 197, 3) := by decide +kernel
theorem fp_M_judge_197 : am_fp mt_M_judge.1 197 12 34 (.boolean) := ⟨"WebFinderModel", tt_M, 90, rfl, by decide, ct_M 34 (by decide), Or.inl ⟨(am_t7 145 rfl rfl), Or.inl rfl⟩⟩
theorem dc_M_judge_10 : decode prog_14_method_31_code 10 = .ok (.aload_n 0, 1) := by decide +kernel
theorem dc_M_judge_11 : decode prog_14_method_31_code 11 = .ok (.iload_n 1, 1) := by decide +kernel
theorem dc_M_judge_12 : decode prog_14_method_31_code 12 = .ok (.invokevirtual 201, 3) := by decide +kernel
theorem dc_M_judge_15 : decode prog_14_method_31_code 15 = .ok (.istore_n 2, 1) := by decide +kernel
theorem dc_M_judge_16 : decode prog_14_method_31_code 16 = .ok (.iload_n 2, 1) := by decide +kernel
theorem dc_M_judge_17 : decode prog_14_method_31_code 17 = .ok (.ifCond .ge 4, 3) := by decide +kernel
theorem dc_M_judge_20 : decode prog_14_method_31_code 20 = .ok (.return_, 1) := by decide +kernel
theorem dc_M_judge_21 : decode prog_14_method_31_code 21 = .ok (.aload_n 0, 1) := by decide +kernel
theorem dc_M_judge_22 : decode prog_14_method_31_code 22 = .ok (.getfield 204, 3) := by decide +kernel
theorem dc_M_judge_25 : decode prog_14_method_31_code 25 = .ok (.iload_n 2, 1) := by decide +kernel
theorem dc_M_judge_26 : decode prog_14_method_31_code 26 = .ok (.iaload, 1) := by decide +kernel
theorem dc_M_judge_27 : decode prog_14_method_31_code 27 = .ok (.istore_n 3, 1) := by decide +kernel
theorem dc_M_judge_28 : decode prog_14_method_31_code 28 = .ok (.aload_n 0, 1) := by decide +kernel
theorem dc_M_judge_29 : decode prog_14_method_31_code 29 = .ok (.iload_n 3, 1) := by decide +kernel
theorem dc_M_judge_30 : decode prog_14_method_31_code 30 = .ok (.invokevirtual 207, 3) := by decide +kernel
theorem mo_M_hasFinder : am_mo mt_M_hasFinder 1 := ⟨⟨by decide +kernel, by decide +kernel⟩, by decide +kernel, ⟨by decide +kernel, by decide +kernel⟩, (am_t9 55 rfl rfl), (am_t1 11 rfl rfl), by decide +kernel⟩
theorem im_M_hasFinder : Cond.instanceMethod mt_M_hasFinder.1 ∈ am_gw := (am_t9 54 rfl rfl)
theorem se_M_hasFinder : Cond.selects mt_M_hasFinder.1.cls mt_M_hasFinder.1 mt_M_hasFinder.1 ∈ am_gw := am_in (List.mem_append_left _ (by decide +kernel)) rfl
theorem ln_M_207 : am_ln "WebFinderModel" 207 mt_M_hasFinder.1 := Or.inl (am_t9 52 rfl rfl)
theorem dc_M_judge_33 : decode prog_14_method_31_code 33 = .ok (.ifCond .ne 7, 3) := by decide +kernel
theorem dc_M_judge_36 : decode prog_14_method_31_code 36 = .ok (.iconst 1, 1) := by decide +kernel
theorem dc_M_judge_37 : decode prog_14_method_31_code 37 = .ok (.goto 4, 3) := by decide +kernel
theorem dc_M_judge_40 : decode prog_14_method_31_code 40 = .ok (.iconst 0, 1) := by decide +kernel
theorem dc_M_judge_41 : decode prog_14_method_31_code 41 = .ok (.istore 4, 2) := by decide +kernel
theorem dc_M_judge_43 : decode prog_14_method_31_code 43 = .ok (.iconst 0, 1) := by decide +kernel
theorem dc_M_judge_44 : decode prog_14_method_31_code 44 = .ok (.istore 5, 2) := by decide +kernel
theorem dc_M_judge_46 : decode prog_14_method_31_code 46 = .ok (.iconst 0, 1) := by decide +kernel
theorem dc_M_judge_47 : decode prog_14_method_31_code 47 = .ok (.istore 6, 2) := by decide +kernel
theorem dc_M_judge_49 : decode prog_14_method_31_code 49 = .ok (.iconst 0, 1) := by decide +kernel
theorem dc_M_judge_50 : decode prog_14_method_31_code 50 = .ok (.istore 7, 2) := by decide +kernel
theorem dc_M_judge_52 : decode prog_14_method_31_code 52 = .ok (.iconst 1, 1) := by decide +kernel
theorem dc_M_judge_53 : decode prog_14_method_31_code 53 = .ok (.istore 8, 2) := by decide +kernel
theorem dc_M_judge_55 : decode prog_14_method_31_code 55 = .ok (.aload_n 0, 1) := by decide +kernel
theorem dc_M_judge_56 : decode prog_14_method_31_code 56 = .ok (.getfield 131, 3) := by decide +kernel
theorem dc_M_judge_59 : decode prog_14_method_31_code 59 = .ok (.iload_n 3, 1) := by decide +kernel
theorem dc_M_judge_60 : decode prog_14_method_31_code 60 = .ok (.iaload, 1) := by decide +kernel
theorem dc_M_judge_61 : decode prog_14_method_31_code 61 = .ok (.istore 9, 2) := by decide +kernel
theorem dc_M_judge_63 : decode prog_14_method_31_code 63 = .ok (.iload 9, 2) := by decide +kernel
theorem dc_M_judge_65 : decode prog_14_method_31_code 65 = .ok (.aload_n 0, 1) := by decide +kernel
theorem dc_M_judge_66 : decode prog_14_method_31_code 66 = .ok (.getfield 146, 3) := by decide +kernel
theorem dc_M_judge_69 : decode prog_14_method_31_code 69 = .ok (.iload_n 3, 1) := by decide +kernel
theorem dc_M_judge_70 : decode prog_14_method_31_code 70 = .ok (.iaload, 1) := by decide +kernel
theorem dc_M_judge_71 : decode prog_14_method_31_code 71 = .ok (.if_icmp .ge 183, 3) := by decide +kernel
theorem dc_M_judge_74 : decode prog_14_method_31_code 74 = .ok (.aload_n 0, 1) := by decide +kernel
theorem dc_M_judge_75 : decode prog_14_method_31_code 75 = .ok (.iload 9, 2) := by decide +kernel
theorem dc_M_judge_77 : decode prog_14_method_31_code 77 = .ok (.aload_n 0, 1) := by decide +kernel
theorem dc_M_judge_78 : decode prog_14_method_31_code 78 = .ok (.getfield 146, 3) := by decide +kernel
theorem dc_M_judge_81 : decode prog_14_method_31_code 81 = .ok (.iload_n 3, 1) := by decide +kernel
theorem dc_M_judge_82 : decode prog_14_method_31_code 82 = .ok (.iaload, 1) := by decide +kernel
theorem dc_M_judge_83 : decode prog_14_method_31_code 83 = .ok (.invokevirtual 176, 3) := by decide +kernel
theorem mo_M_readLine : am_mo mt_M_readLine 2 := ⟨⟨by decide +kernel, by decide +kernel⟩, by decide +kernel, ⟨by decide +kernel, by decide +kernel⟩, (am_t9 59 rfl rfl), (am_t1 11 rfl rfl), by decide +kernel⟩
theorem im_M_readLine : Cond.instanceMethod mt_M_readLine.1 ∈ am_gw := (am_t9 58 rfl rfl)
theorem se_M_readLine : Cond.selects mt_M_readLine.1.cls mt_M_readLine.1 mt_M_readLine.1 ∈ am_gw := am_in (List.mem_append_left _ (by decide +kernel)) rfl
theorem ln_M_176 : am_ln "WebFinderModel" 176 mt_M_readLine.1 := Or.inl (am_t9 56 rfl rfl)
theorem dc_M_judge_86 : decode prog_14_method_31_code 86 = .ok (.istore 9, 2) := by decide +kernel
theorem dc_M_judge_88 : decode prog_14_method_31_code 88 = .ok (.aload_n 0, 1) := by decide +kernel
theorem dc_M_judge_89 : decode prog_14_method_31_code 89 = .ok (.getfield 159, 3) := by decide +kernel
theorem fl_M_159 : am_fl "WebFinderModel" 159 12 27 := ⟨"WebFinderModel", tt_M, 90, rfl, by decide, Or.inl (am_t7 138 rfl rfl)⟩
theorem dc_M_judge_92 : decode prog_14_method_31_code 92 = .ok (.ifCond .ne 35, 3) := by decide +kernel
theorem dc_M_judge_95 : decode prog_14_method_31_code 95 = .ok (.iload 5, 2) := by decide +kernel
theorem dc_M_judge_97 : decode prog_14_method_31_code 97 = .ok (.ifCond .eq 8, 3) := by decide +kernel
theorem dc_M_judge_100 : decode prog_14_method_31_code 100 = .ok (.iload 6, 2) := by decide +kernel
theorem dc_M_judge_102 : decode prog_14_method_31_code 102 = .ok (.ifCond .ne 12, 3) := by decide +kernel
theorem dc_M_judge_105 : decode prog_14_method_31_code 105 = .ok (.aload_n 0, 1) := by decide +kernel
theorem dc_M_judge_106 : decode prog_14_method_31_code 106 = .ok (.iload 4, 2) := by decide +kernel
theorem dc_M_judge_108 : decode prog_14_method_31_code 108 = .ok (.invokevirtual 180, 3) := by decide +kernel
theorem mo_M_isAgent : am_mo mt_M_isAgent 1 := ⟨⟨by decide +kernel, by decide +kernel⟩, by decide +kernel, ⟨by decide +kernel, by decide +kernel⟩, (am_t9 66 rfl rfl), (am_t1 11 rfl rfl), by decide +kernel⟩
theorem im_M_isAgent : Cond.instanceMethod mt_M_isAgent.1 ∈ am_gw := (am_t9 65 rfl rfl)
theorem se_M_isAgent : Cond.selects mt_M_isAgent.1.cls mt_M_isAgent.1 mt_M_isAgent.1 ∈ am_gw := am_in (List.mem_append_left _ (by decide +kernel)) rfl
theorem ln_M_180 : am_ln "WebFinderModel" 180 mt_M_isAgent.1 := Or.inl (am_t9 63 rfl rfl)
theorem dc_M_judge_111 : decode prog_14_method_31_code 111 = .ok (.ifCond .eq 7, 3) := by decide +kernel
theorem dc_M_judge_114 : decode prog_14_method_31_code 114 = .ok (.iconst 1, 1) := by decide +kernel
theorem dc_M_judge_115 : decode prog_14_method_31_code 115 = .ok (.goto 4, 3) := by decide +kernel
theorem dc_M_judge_118 : decode prog_14_method_31_code 118 = .ok (.iconst 0, 1) := by decide +kernel
theorem dc_M_judge_119 : decode prog_14_method_31_code 119 = .ok (.istore 6, 2) := by decide +kernel
theorem dc_M_judge_121 : decode prog_14_method_31_code 121 = .ok (.iconst 1, 1) := by decide +kernel
theorem dc_M_judge_122 : decode prog_14_method_31_code 122 = .ok (.istore 5, 2) := by decide +kernel
theorem dc_M_judge_124 : decode prog_14_method_31_code 124 = .ok (.goto (-61), 3) := by decide +kernel
theorem dc_M_judge_127 : decode prog_14_method_31_code 127 = .ok (.aload_n 0, 1) := by decide +kernel
theorem dc_M_judge_128 : decode prog_14_method_31_code 128 = .ok (.getfield 159, 3) := by decide +kernel
theorem dc_M_judge_131 : decode prog_14_method_31_code 131 = .ok (.ifCond .le (-68), 3) := by decide +kernel
theorem dc_M_judge_134 : decode prog_14_method_31_code 134 = .ok (.iconst 0, 1) := by decide +kernel
theorem dc_M_judge_135 : decode prog_14_method_31_code 135 = .ok (.istore 5, 2) := by decide +kernel
theorem dc_M_judge_137 : decode prog_14_method_31_code 137 = .ok (.aload_n 0, 1) := by decide +kernel
theorem dc_M_judge_138 : decode prog_14_method_31_code 138 = .ok (.aload_n 0, 1) := by decide +kernel
theorem dc_M_judge_139 : decode prog_14_method_31_code 139 = .ok (.getfield 140, 3) := by decide +kernel
theorem dc_M_judge_142 : decode prog_14_method_31_code 142 = .ok (.aload_n 0, 1) := by decide +kernel
theorem dc_M_judge_143 : decode prog_14_method_31_code 143 = .ok (.getfield 168, 3) := by decide +kernel
theorem fl_M_168 : am_fl "WebFinderModel" 168 12 28 := ⟨"WebFinderModel", tt_M, 90, rfl, by decide, Or.inl (am_t7 139 rfl rfl)⟩
theorem dc_M_judge_146 : decode prog_14_method_31_code 146 = .ok (.aload_n 0, 1) := by decide +kernel
theorem dc_M_judge_147 : decode prog_14_method_31_code 147 = .ok (.getfield 171, 3) := by decide +kernel
theorem fl_M_171 : am_fl "WebFinderModel" 171 12 29 := ⟨"WebFinderModel", tt_M, 90, rfl, by decide, Or.inl (am_t7 140 rfl rfl)⟩
theorem dc_M_judge_150 : decode prog_14_method_31_code 150 = .ok (.aload_n 0, 1) := by decide +kernel
theorem dc_M_judge_151 : decode prog_14_method_31_code 151 = .ok (.getfield 191, 3) := by decide +kernel
theorem fl_M_191 : am_fl "WebFinderModel" 191 12 30 := ⟨"WebFinderModel", tt_M, 90, rfl, by decide, Or.inl (am_t7 141 rfl rfl)⟩
theorem dc_M_judge_154 : decode prog_14_method_31_code 154 = .ok (.iconst 0, 1) := by decide +kernel
theorem dc_M_judge_155 : decode prog_14_method_31_code 155 = .ok (.invokestatic 94, 3) := by decide +kernel
theorem dc_M_judge_158 : decode prog_14_method_31_code 158 = .ok (.putfield 188, 3) := by decide +kernel
theorem fp_M_judge_188 : am_fp mt_M_judge.1 188 12 31 (.int) := ⟨"WebFinderModel", tt_M, 90, rfl, by decide, ct_M 31 (by decide), Or.inl ⟨(am_t7 142 rfl rfl), Or.inl rfl⟩⟩
theorem dc_M_judge_161 : decode prog_14_method_31_code 161 = .ok (.iload 6, 2) := by decide +kernel
theorem dc_M_judge_163 : decode prog_14_method_31_code 163 = .ok (.ifCond .eq (-100), 3) := by decide +kernel
theorem dc_M_judge_166 : decode prog_14_method_31_code 166 = .ok (.aload_n 0, 1) := by decide +kernel
theorem dc_M_judge_167 : decode prog_14_method_31_code 167 = .ok (.getfield 188, 3) := by decide +kernel
theorem fl_M_188 : am_fl "WebFinderModel" 188 12 31 := ⟨"WebFinderModel", tt_M, 90, rfl, by decide, Or.inl (am_t7 142 rfl rfl)⟩
theorem dc_M_judge_170 : decode prog_14_method_31_code 170 = .ok (.ifCond .le (-107), 3) := by decide +kernel
theorem dc_M_judge_173 : decode prog_14_method_31_code 173 = .ok (.aload_n 0, 1) := by decide +kernel
theorem dc_M_judge_174 : decode prog_14_method_31_code 174 = .ok (.dup, 1) := by decide +kernel
theorem dc_M_judge_175 : decode prog_14_method_31_code 175 = .ok (.getfield 194, 3) := by decide +kernel
theorem dc_M_judge_178 : decode prog_14_method_31_code 178 = .ok (.iconst 1, 1) := by decide +kernel
theorem dc_M_judge_179 : decode prog_14_method_31_code 179 = .ok (.iadd, 1) := by decide +kernel
theorem dc_M_judge_180 : decode prog_14_method_31_code 180 = .ok (.putfield 194, 3) := by decide +kernel
theorem dc_M_judge_183 : decode prog_14_method_31_code 183 = .ok (.aload_n 0, 1) := by decide +kernel
theorem dc_M_judge_184 : decode prog_14_method_31_code 184 = .ok (.iload_n 1, 1) := by decide +kernel
theorem dc_M_judge_185 : decode prog_14_method_31_code 185 = .ok (.invokevirtual 210, 3) := by decide +kernel
theorem mo_M_matches : am_mo mt_M_matches 1 := ⟨⟨by decide +kernel, by decide +kernel⟩, by decide +kernel, ⟨by decide +kernel, by decide +kernel⟩, (am_t9 71 rfl rfl), (am_t1 11 rfl rfl), by decide +kernel⟩
theorem im_M_matches : Cond.instanceMethod mt_M_matches.1 ∈ am_gw := (am_t9 70 rfl rfl)
theorem se_M_matches : Cond.selects mt_M_matches.1.cls mt_M_matches.1 mt_M_matches.1 ∈ am_gw := am_in (List.mem_append_left _ (by decide +kernel)) rfl
theorem ln_M_210 : am_ln "WebFinderModel" 210 mt_M_matches.1 := Or.inl (am_t9 68 rfl rfl)
theorem dc_M_judge_188 : decode prog_14_method_31_code 188 = .ok (.ifCond .eq (-125), 3) := by decide +kernel
theorem dc_M_judge_191 : decode prog_14_method_31_code 191 = .ok (.aload_n 0, 1) := by decide +kernel
theorem dc_M_judge_192 : decode prog_14_method_31_code 192 = .ok (.getfield 188, 3) := by decide +kernel
theorem dc_M_judge_195 : decode prog_14_method_31_code 195 = .ok (.iload 7, 2) := by decide +kernel
theorem dc_M_judge_197 : decode prog_14_method_31_code 197 = .ok (.if_icmp .lt (-134), 3) := by decide +kernel
theorem dc_M_judge_200 : decode prog_14_method_31_code 200 = .ok (.aload_n 0, 1) := by decide +kernel
theorem dc_M_judge_201 : decode prog_14_method_31_code 201 = .ok (.getfield 188, 3) := by decide +kernel
theorem dc_M_judge_204 : decode prog_14_method_31_code 204 = .ok (.iload 7, 2) := by decide +kernel
theorem dc_M_judge_206 : decode prog_14_method_31_code 206 = .ok (.if_icmp .le 19, 3) := by decide +kernel
theorem dc_M_judge_209 : decode prog_14_method_31_code 209 = .ok (.aload_n 0, 1) := by decide +kernel
theorem dc_M_judge_210 : decode prog_14_method_31_code 210 = .ok (.getfield 159, 3) := by decide +kernel
theorem dc_M_judge_213 : decode prog_14_method_31_code 213 = .ok (.iconst 1, 1) := by decide +kernel
theorem dc_M_judge_214 : decode prog_14_method_31_code 214 = .ok (.if_icmp .ne 7, 3) := by decide +kernel
theorem dc_M_judge_217 : decode prog_14_method_31_code 217 = .ok (.iconst 1, 1) := by decide +kernel
theorem dc_M_judge_218 : decode prog_14_method_31_code 218 = .ok (.goto 25, 3) := by decide +kernel
theorem dc_M_judge_221 : decode prog_14_method_31_code 221 = .ok (.iconst 0, 1) := by decide +kernel
theorem dc_M_judge_222 : decode prog_14_method_31_code 222 = .ok (.goto 21, 3) := by decide +kernel
theorem dc_M_judge_225 : decode prog_14_method_31_code 225 = .ok (.iload 8, 2) := by decide +kernel
theorem dc_M_judge_227 : decode prog_14_method_31_code 227 = .ok (.ifCond .ne 11, 3) := by decide +kernel
theorem dc_M_judge_230 : decode prog_14_method_31_code 230 = .ok (.aload_n 0, 1) := by decide +kernel
theorem dc_M_judge_231 : decode prog_14_method_31_code 231 = .ok (.getfield 159, 3) := by decide +kernel
theorem dc_M_judge_234 : decode prog_14_method_31_code 234 = .ok (.iconst 1, 1) := by decide +kernel
theorem dc_M_judge_235 : decode prog_14_method_31_code 235 = .ok (.if_icmp .ne 7, 3) := by decide +kernel
theorem dc_M_judge_238 : decode prog_14_method_31_code 238 = .ok (.iconst 1, 1) := by decide +kernel
theorem dc_M_judge_239 : decode prog_14_method_31_code 239 = .ok (.goto 4, 3) := by decide +kernel
theorem dc_M_judge_242 : decode prog_14_method_31_code 242 = .ok (.iconst 0, 1) := by decide +kernel
theorem dc_M_judge_243 : decode prog_14_method_31_code 243 = .ok (.istore 8, 2) := by decide +kernel
theorem dc_M_judge_245 : decode prog_14_method_31_code 245 = .ok (.aload_n 0, 1) := by decide +kernel
theorem dc_M_judge_246 : decode prog_14_method_31_code 246 = .ok (.getfield 188, 3) := by decide +kernel
theorem dc_M_judge_249 : decode prog_14_method_31_code 249 = .ok (.istore 7, 2) := by decide +kernel
theorem dc_M_judge_251 : decode prog_14_method_31_code 251 = .ok (.goto (-188), 3) := by decide +kernel
theorem dc_M_judge_254 : decode prog_14_method_31_code 254 = .ok (.aload_n 0, 1) := by decide +kernel
theorem dc_M_judge_255 : decode prog_14_method_31_code 255 = .ok (.iload 8, 2) := by decide +kernel
theorem dc_M_judge_257 : decode prog_14_method_31_code 257 = .ok (.putfield 197, 3) := by decide +kernel
theorem dc_M_judge_260 : decode prog_14_method_31_code 260 = .ok (.return_, 1) := by decide +kernel
theorem dc_M_hasFinder_0 : decode prog_14_method_29_code 0 = .ok (.iconst 0, 1) := by decide +kernel
theorem dc_M_hasFinder_1 : decode prog_14_method_29_code 1 = .ok (.istore_n 2, 1) := by decide +kernel
theorem dc_M_hasFinder_2 : decode prog_14_method_29_code 2 = .ok (.aload_n 0, 1) := by decide +kernel
theorem dc_M_hasFinder_3 : decode prog_14_method_29_code 3 = .ok (.getfield 131, 3) := by decide +kernel
theorem dc_M_hasFinder_6 : decode prog_14_method_29_code 6 = .ok (.iload_n 1, 1) := by decide +kernel
theorem dc_M_hasFinder_7 : decode prog_14_method_29_code 7 = .ok (.iaload, 1) := by decide +kernel
theorem dc_M_hasFinder_8 : decode prog_14_method_29_code 8 = .ok (.istore_n 3, 1) := by decide +kernel
theorem dc_M_hasFinder_9 : decode prog_14_method_29_code 9 = .ok (.iload_n 3, 1) := by decide +kernel
theorem dc_M_hasFinder_10 : decode prog_14_method_29_code 10 = .ok (.aload_n 0, 1) := by decide +kernel
theorem dc_M_hasFinder_11 : decode prog_14_method_29_code 11 = .ok (.getfield 146, 3) := by decide +kernel
theorem dc_M_hasFinder_14 : decode prog_14_method_29_code 14 = .ok (.iload_n 1, 1) := by decide +kernel
theorem dc_M_hasFinder_15 : decode prog_14_method_29_code 15 = .ok (.iaload, 1) := by decide +kernel
theorem dc_M_hasFinder_16 : decode prog_14_method_29_code 16 = .ok (.if_icmp .ge 43, 3) := by decide +kernel
theorem dc_M_hasFinder_19 : decode prog_14_method_29_code 19 = .ok (.aload_n 0, 1) := by decide +kernel
theorem dc_M_hasFinder_20 : decode prog_14_method_29_code 20 = .ok (.iload_n 3, 1) := by decide +kernel
theorem dc_M_hasFinder_21 : decode prog_14_method_29_code 21 = .ok (.aload_n 0, 1) := by decide +kernel
theorem dc_M_hasFinder_22 : decode prog_14_method_29_code 22 = .ok (.getfield 146, 3) := by decide +kernel
theorem dc_M_hasFinder_25 : decode prog_14_method_29_code 25 = .ok (.iload_n 1, 1) := by decide +kernel
theorem dc_M_hasFinder_26 : decode prog_14_method_29_code 26 = .ok (.iaload, 1) := by decide +kernel
theorem dc_M_hasFinder_27 : decode prog_14_method_29_code 27 = .ok (.invokevirtual 176, 3) := by decide +kernel
theorem dc_M_hasFinder_30 : decode prog_14_method_29_code 30 = .ok (.istore_n 3, 1) := by decide +kernel
theorem dc_M_hasFinder_31 : decode prog_14_method_29_code 31 = .ok (.iload_n 2, 1) := by decide +kernel
theorem dc_M_hasFinder_32 : decode prog_14_method_29_code 32 = .ok (.ifCond .ne 18, 3) := by decide +kernel
theorem dc_M_hasFinder_35 : decode prog_14_method_29_code 35 = .ok (.aload_n 0, 1) := by decide +kernel
theorem dc_M_hasFinder_36 : decode prog_14_method_29_code 36 = .ok (.getfield 159, 3) := by decide +kernel
theorem dc_M_hasFinder_39 : decode prog_14_method_29_code 39 = .ok (.ifCond .ne 15, 3) := by decide +kernel
theorem dc_M_hasFinder_42 : decode prog_14_method_29_code 42 = .ok (.aload_n 0, 1) := by decide +kernel
theorem dc_M_hasFinder_43 : decode prog_14_method_29_code 43 = .ok (.iconst 0, 1) := by decide +kernel
theorem dc_M_hasFinder_44 : decode prog_14_method_29_code 44 = .ok (.invokevirtual 180, 3) := by decide +kernel
theorem dc_M_hasFinder_47 : decode prog_14_method_29_code 47 = .ok (.ifCond .eq 7, 3) := by decide +kernel
theorem dc_M_hasFinder_50 : decode prog_14_method_29_code 50 = .ok (.iconst 1, 1) := by decide +kernel
theorem dc_M_hasFinder_51 : decode prog_14_method_29_code 51 = .ok (.goto 4, 3) := by decide +kernel
theorem dc_M_hasFinder_54 : decode prog_14_method_29_code 54 = .ok (.iconst 0, 1) := by decide +kernel
theorem dc_M_hasFinder_55 : decode prog_14_method_29_code 55 = .ok (.istore_n 2, 1) := by decide +kernel
theorem dc_M_hasFinder_56 : decode prog_14_method_29_code 56 = .ok (.goto (-47), 3) := by decide +kernel
theorem dc_M_hasFinder_59 : decode prog_14_method_29_code 59 = .ok (.iload_n 2, 1) := by decide +kernel
theorem dc_M_hasFinder_60 : decode prog_14_method_29_code 60 = .ok (.ireturn, 1) := by decide +kernel
theorem dc_M_readLine_0 : decode prog_14_method_27_code 0 = .ok (.aload_n 0, 1) := by decide +kernel
theorem dc_M_readLine_1 : decode prog_14_method_27_code 1 = .ok (.getfield 140, 3) := by decide +kernel
theorem dc_M_readLine_4 : decode prog_14_method_27_code 4 = .ok (.iload_n 1, 1) := by decide +kernel
theorem dc_M_readLine_5 : decode prog_14_method_27_code 5 = .ok (.iload_n 2, 1) := by decide +kernel
theorem dc_M_readLine_6 : decode prog_14_method_27_code 6 = .ok (.bipush 10, 2) := by decide +kernel
theorem dc_M_readLine_8 : decode prog_14_method_27_code 8 = .ok (.invokestatic 48, 3) := by decide +kernel
theorem dc_M_readLine_11 : decode prog_14_method_27_code 11 = .ok (.istore_n 3, 1) := by decide +kernel
theorem dc_M_readLine_12 : decode prog_14_method_27_code 12 = .ok (.aload_n 0, 1) := by decide +kernel
theorem dc_M_readLine_13 : decode prog_14_method_27_code 13 = .ok (.getfield 140, 3) := by decide +kernel
theorem dc_M_readLine_16 : decode prog_14_method_27_code 16 = .ok (.iload_n 1, 1) := by decide +kernel
theorem dc_M_readLine_17 : decode prog_14_method_27_code 17 = .ok (.iload_n 3, 1) := by decide +kernel
theorem dc_M_readLine_18 : decode prog_14_method_27_code 18 = .ok (.bipush 35, 2) := by decide +kernel
theorem dc_M_readLine_20 : decode prog_14_method_27_code 20 = .ok (.invokestatic 48, 3) := by decide +kernel
theorem dc_M_readLine_23 : decode prog_14_method_27_code 23 = .ok (.istore 4, 2) := by decide +kernel
theorem dc_M_readLine_25 : decode prog_14_method_27_code 25 = .ok (.aload_n 0, 1) := by decide +kernel
theorem dc_M_readLine_26 : decode prog_14_method_27_code 26 = .ok (.iconst (-1), 1) := by decide +kernel
theorem dc_M_readLine_27 : decode prog_14_method_27_code 27 = .ok (.putfield 159, 3) := by decide +kernel
theorem fp_M_readLine_159 : am_fp mt_M_readLine.1 159 12 27 (.int) := ⟨"WebFinderModel", tt_M, 90, rfl, by decide, ct_M 27 (by decide), Or.inl ⟨(am_t7 138 rfl rfl), Or.inl rfl⟩⟩
theorem dc_M_readLine_30 : decode prog_14_method_27_code 30 = .ok (.aload_n 0, 1) := by decide +kernel
theorem dc_M_readLine_31 : decode prog_14_method_27_code 31 = .ok (.getfield 140, 3) := by decide +kernel
theorem dc_M_readLine_34 : decode prog_14_method_27_code 34 = .ok (.iload_n 1, 1) := by decide +kernel
theorem dc_M_readLine_35 : decode prog_14_method_27_code 35 = .ok (.iload 4, 2) := by decide +kernel
theorem dc_M_readLine_37 : decode prog_14_method_27_code 37 = .ok (.bipush 58, 2) := by decide +kernel
theorem dc_M_readLine_39 : decode prog_14_method_27_code 39 = .ok (.invokestatic 48, 3) := by decide +kernel
theorem dc_M_readLine_42 : decode prog_14_method_27_code 42 = .ok (.istore 5, 2) := by decide +kernel
theorem dc_M_readLine_44 : decode prog_14_method_27_code 44 = .ok (.iload 5, 2) := by decide +kernel
theorem dc_M_readLine_46 : decode prog_14_method_27_code 46 = .ok (.iload 4, 2) := by decide +kernel
theorem dc_M_readLine_48 : decode prog_14_method_27_code 48 = .ok (.if_icmp .ge 223, 3) := by decide +kernel
theorem dc_M_readLine_51 : decode prog_14_method_27_code 51 = .ok (.iload_n 1, 1) := by decide +kernel
theorem dc_M_readLine_52 : decode prog_14_method_27_code 52 = .ok (.istore 6, 2) := by decide +kernel
theorem dc_M_readLine_54 : decode prog_14_method_27_code 54 = .ok (.iload 5, 2) := by decide +kernel
theorem dc_M_readLine_56 : decode prog_14_method_27_code 56 = .ok (.istore 7, 2) := by decide +kernel
theorem dc_M_readLine_58 : decode prog_14_method_27_code 58 = .ok (.iload 6, 2) := by decide +kernel
theorem dc_M_readLine_60 : decode prog_14_method_27_code 60 = .ok (.iload 7, 2) := by decide +kernel
theorem dc_M_readLine_62 : decode prog_14_method_27_code 62 = .ok (.if_icmp .ge 22, 3) := by decide +kernel
theorem dc_M_readLine_65 : decode prog_14_method_27_code 65 = .ok (.aload_n 0, 1) := by decide +kernel
theorem dc_M_readLine_66 : decode prog_14_method_27_code 66 = .ok (.getfield 140, 3) := by decide +kernel
theorem dc_M_readLine_69 : decode prog_14_method_27_code 69 = .ok (.iload 6, 2) := by decide +kernel
theorem dc_M_readLine_71 : decode prog_14_method_27_code 71 = .ok (.baload, 1) := by decide +kernel
theorem dc_M_readLine_72 : decode prog_14_method_27_code 72 = .ok (.invokestatic 75, 3) := by decide +kernel
theorem dc_M_readLine_75 : decode prog_14_method_27_code 75 = .ok (.ifCond .eq 9, 3) := by decide +kernel
theorem dc_M_readLine_78 : decode prog_14_method_27_code 78 = .ok (.iinc 6 1, 3) := by decide +kernel
theorem dc_M_readLine_81 : decode prog_14_method_27_code 81 = .ok (.goto (-23), 3) := by decide +kernel
theorem dc_M_readLine_84 : decode prog_14_method_27_code 84 = .ok (.iload 7, 2) := by decide +kernel
theorem dc_M_readLine_86 : decode prog_14_method_27_code 86 = .ok (.iload 6, 2) := by decide +kernel
theorem dc_M_readLine_88 : decode prog_14_method_27_code 88 = .ok (.if_icmp .le 24, 3) := by decide +kernel
theorem dc_M_readLine_91 : decode prog_14_method_27_code 91 = .ok (.aload_n 0, 1) := by decide +kernel
theorem dc_M_readLine_92 : decode prog_14_method_27_code 92 = .ok (.getfield 140, 3) := by decide +kernel
theorem dc_M_readLine_95 : decode prog_14_method_27_code 95 = .ok (.iload 7, 2) := by decide +kernel
theorem dc_M_readLine_97 : decode prog_14_method_27_code 97 = .ok (.iconst 1, 1) := by decide +kernel
theorem dc_M_readLine_98 : decode prog_14_method_27_code 98 = .ok (.isub, 1) := by decide +kernel
theorem dc_M_readLine_99 : decode prog_14_method_27_code 99 = .ok (.baload, 1) := by decide +kernel
theorem dc_M_readLine_100 : decode prog_14_method_27_code 100 = .ok (.invokestatic 75, 3) := by decide +kernel
theorem dc_M_readLine_103 : decode prog_14_method_27_code 103 = .ok (.ifCond .eq 9, 3) := by decide +kernel
theorem dc_M_readLine_106 : decode prog_14_method_27_code 106 = .ok (.iinc 7 (-1), 3) := by decide +kernel
theorem dc_M_readLine_109 : decode prog_14_method_27_code 109 = .ok (.goto (-25), 3) := by decide +kernel
theorem dc_M_readLine_112 : decode prog_14_method_27_code 112 = .ok (.aload_n 0, 1) := by decide +kernel
theorem dc_M_readLine_113 : decode prog_14_method_27_code 113 = .ok (.aload_n 0, 1) := by decide +kernel
theorem dc_M_readLine_114 : decode prog_14_method_27_code 114 = .ok (.getfield 140, 3) := by decide +kernel
theorem dc_M_readLine_117 : decode prog_14_method_27_code 117 = .ok (.iload 6, 2) := by decide +kernel
theorem dc_M_readLine_119 : decode prog_14_method_27_code 119 = .ok (.iload 7, 2) := by decide +kernel
theorem dc_M_readLine_121 : decode prog_14_method_27_code 121 = .ok (.ldc 162, 2) := by decide +kernel
theorem dc_M_readLine_123 : decode prog_14_method_27_code 123 = .ok (.invokestatic 83, 3) := by decide +kernel
theorem dc_M_readLine_126 : decode prog_14_method_27_code 126 = .ok (.ifCond .eq 7, 3) := by decide +kernel
theorem dc_M_readLine_129 : decode prog_14_method_27_code 129 = .ok (.iconst 0, 1) := by decide +kernel
theorem dc_M_readLine_130 : decode prog_14_method_27_code 130 = .ok (.goto 44, 3) := by decide +kernel
theorem dc_M_readLine_133 : decode prog_14_method_27_code 133 = .ok (.aload_n 0, 1) := by decide +kernel
theorem dc_M_readLine_134 : decode prog_14_method_27_code 134 = .ok (.getfield 140, 3) := by decide +kernel
theorem dc_M_readLine_137 : decode prog_14_method_27_code 137 = .ok (.iload 6, 2) := by decide +kernel
theorem dc_M_readLine_139 : decode prog_14_method_27_code 139 = .ok (.iload 7, 2) := by decide +kernel
theorem dc_M_readLine_141 : decode prog_14_method_27_code 141 = .ok (.ldc 164, 2) := by decide +kernel
theorem dc_M_readLine_143 : decode prog_14_method_27_code 143 = .ok (.invokestatic 83, 3) := by decide +kernel
theorem dc_M_readLine_146 : decode prog_14_method_27_code 146 = .ok (.ifCond .eq 7, 3) := by decide +kernel
theorem dc_M_readLine_149 : decode prog_14_method_27_code 149 = .ok (.iconst 1, 1) := by decide +kernel
theorem dc_M_readLine_150 : decode prog_14_method_27_code 150 = .ok (.goto 24, 3) := by decide +kernel
theorem dc_M_readLine_153 : decode prog_14_method_27_code 153 = .ok (.aload_n 0, 1) := by decide +kernel
theorem dc_M_readLine_154 : decode prog_14_method_27_code 154 = .ok (.getfield 140, 3) := by decide +kernel
theorem dc_M_readLine_157 : decode prog_14_method_27_code 157 = .ok (.iload 6, 2) := by decide +kernel
theorem dc_M_readLine_159 : decode prog_14_method_27_code 159 = .ok (.iload 7, 2) := by decide +kernel
theorem dc_M_readLine_161 : decode prog_14_method_27_code 161 = .ok (.ldc 166, 2) := by decide +kernel
theorem dc_M_readLine_163 : decode prog_14_method_27_code 163 = .ok (.invokestatic 83, 3) := by decide +kernel
theorem dc_M_readLine_166 : decode prog_14_method_27_code 166 = .ok (.ifCond .eq 7, 3) := by decide +kernel
theorem dc_M_readLine_169 : decode prog_14_method_27_code 169 = .ok (.iconst 2, 1) := by decide +kernel
theorem dc_M_readLine_170 : decode prog_14_method_27_code 170 = .ok (.goto 4, 3) := by decide +kernel
theorem dc_M_readLine_173 : decode prog_14_method_27_code 173 = .ok (.iconst (-1), 1) := by decide +kernel
theorem dc_M_readLine_174 : decode prog_14_method_27_code 174 = .ok (.putfield 159, 3) := by decide +kernel
theorem dc_M_readLine_177 : decode prog_14_method_27_code 177 = .ok (.aload_n 0, 1) := by decide +kernel
theorem dc_M_readLine_178 : decode prog_14_method_27_code 178 = .ok (.iload 5, 2) := by decide +kernel
theorem dc_M_readLine_180 : decode prog_14_method_27_code 180 = .ok (.iconst 1, 1) := by decide +kernel
theorem dc_M_readLine_181 : decode prog_14_method_27_code 181 = .ok (.iadd, 1) := by decide +kernel
theorem dc_M_readLine_182 : decode prog_14_method_27_code 182 = .ok (.putfield 168, 3) := by decide +kernel
theorem fp_M_readLine_168 : am_fp mt_M_readLine.1 168 12 28 (.int) := ⟨"WebFinderModel", tt_M, 90, rfl, by decide, ct_M 28 (by decide), Or.inl ⟨(am_t7 139 rfl rfl), Or.inl rfl⟩⟩
theorem dc_M_readLine_185 : decode prog_14_method_27_code 185 = .ok (.aload_n 0, 1) := by decide +kernel
theorem dc_M_readLine_186 : decode prog_14_method_27_code 186 = .ok (.iload 4, 2) := by decide +kernel
theorem dc_M_readLine_188 : decode prog_14_method_27_code 188 = .ok (.putfield 171, 3) := by decide +kernel
theorem fp_M_readLine_171 : am_fp mt_M_readLine.1 171 12 29 (.int) := ⟨"WebFinderModel", tt_M, 90, rfl, by decide, ct_M 29 (by decide), Or.inl ⟨(am_t7 140 rfl rfl), Or.inl rfl⟩⟩
theorem dc_M_readLine_191 : decode prog_14_method_27_code 191 = .ok (.aload_n 0, 1) := by decide +kernel
theorem dc_M_readLine_192 : decode prog_14_method_27_code 192 = .ok (.getfield 168, 3) := by decide +kernel
theorem dc_M_readLine_195 : decode prog_14_method_27_code 195 = .ok (.aload_n 0, 1) := by decide +kernel
theorem dc_M_readLine_196 : decode prog_14_method_27_code 196 = .ok (.getfield 171, 3) := by decide +kernel
theorem dc_M_readLine_199 : decode prog_14_method_27_code 199 = .ok (.if_icmp .ge 31, 3) := by decide +kernel
theorem dc_M_readLine_202 : decode prog_14_method_27_code 202 = .ok (.aload_n 0, 1) := by decide +kernel
theorem dc_M_readLine_203 : decode prog_14_method_27_code 203 = .ok (.getfield 140, 3) := by decide +kernel
theorem dc_M_readLine_206 : decode prog_14_method_27_code 206 = .ok (.aload_n 0, 1) := by decide +kernel
theorem dc_M_readLine_207 : decode prog_14_method_27_code 207 = .ok (.getfield 168, 3) := by decide +kernel
theorem dc_M_readLine_210 : decode prog_14_method_27_code 210 = .ok (.baload, 1) := by decide +kernel
theorem dc_M_readLine_211 : decode prog_14_method_27_code 211 = .ok (.invokestatic 75, 3) := by decide +kernel
theorem dc_M_readLine_214 : decode prog_14_method_27_code 214 = .ok (.ifCond .eq 16, 3) := by decide +kernel
theorem dc_M_readLine_217 : decode prog_14_method_27_code 217 = .ok (.aload_n 0, 1) := by decide +kernel
theorem dc_M_readLine_218 : decode prog_14_method_27_code 218 = .ok (.dup, 1) := by decide +kernel
theorem dc_M_readLine_219 : decode prog_14_method_27_code 219 = .ok (.getfield 168, 3) := by decide +kernel
theorem dc_M_readLine_222 : decode prog_14_method_27_code 222 = .ok (.iconst 1, 1) := by decide +kernel
theorem dc_M_readLine_223 : decode prog_14_method_27_code 223 = .ok (.iadd, 1) := by decide +kernel
theorem dc_M_readLine_224 : decode prog_14_method_27_code 224 = .ok (.putfield 168, 3) := by decide +kernel
theorem dc_M_readLine_227 : decode prog_14_method_27_code 227 = .ok (.goto (-36), 3) := by decide +kernel
theorem dc_M_readLine_230 : decode prog_14_method_27_code 230 = .ok (.aload_n 0, 1) := by decide +kernel
theorem dc_M_readLine_231 : decode prog_14_method_27_code 231 = .ok (.getfield 171, 3) := by decide +kernel
theorem dc_M_readLine_234 : decode prog_14_method_27_code 234 = .ok (.aload_n 0, 1) := by decide +kernel
theorem dc_M_readLine_235 : decode prog_14_method_27_code 235 = .ok (.getfield 168, 3) := by decide +kernel
theorem dc_M_readLine_238 : decode prog_14_method_27_code 238 = .ok (.if_icmp .le 33, 3) := by decide +kernel
theorem dc_M_readLine_241 : decode prog_14_method_27_code 241 = .ok (.aload_n 0, 1) := by decide +kernel
theorem dc_M_readLine_242 : decode prog_14_method_27_code 242 = .ok (.getfield 140, 3) := by decide +kernel
theorem dc_M_readLine_245 : decode prog_14_method_27_code 245 = .ok (.aload_n 0, 1) := by decide +kernel
theorem dc_M_readLine_246 : decode prog_14_method_27_code 246 = .ok (.getfield 171, 3) := by decide +kernel
theorem dc_M_readLine_249 : decode prog_14_method_27_code 249 = .ok (.iconst 1, 1) := by decide +kernel
theorem dc_M_readLine_250 : decode prog_14_method_27_code 250 = .ok (.isub, 1) := by decide +kernel
theorem dc_M_readLine_251 : decode prog_14_method_27_code 251 = .ok (.baload, 1) := by decide +kernel
theorem dc_M_readLine_252 : decode prog_14_method_27_code 252 = .ok (.invokestatic 75, 3) := by decide +kernel
theorem dc_M_readLine_255 : decode prog_14_method_27_code 255 = .ok (.ifCond .eq 16, 3) := by decide +kernel
theorem dc_M_readLine_258 : decode prog_14_method_27_code 258 = .ok (.aload_n 0, 1) := by decide +kernel
theorem dc_M_readLine_259 : decode prog_14_method_27_code 259 = .ok (.dup, 1) := by decide +kernel
theorem dc_M_readLine_260 : decode prog_14_method_27_code 260 = .ok (.getfield 171, 3) := by decide +kernel
theorem dc_M_readLine_263 : decode prog_14_method_27_code 263 = .ok (.iconst 1, 1) := by decide +kernel
theorem dc_M_readLine_264 : decode prog_14_method_27_code 264 = .ok (.isub, 1) := by decide +kernel
theorem dc_M_readLine_265 : decode prog_14_method_27_code 265 = .ok (.putfield 171, 3) := by decide +kernel
theorem dc_M_readLine_268 : decode prog_14_method_27_code 268 = .ok (.goto (-38), 3) := by decide +kernel
theorem dc_M_readLine_271 : decode prog_14_method_27_code 271 = .ok (.iload_n 3, 1) := by decide +kernel
theorem dc_M_readLine_272 : decode prog_14_method_27_code 272 = .ok (.iconst 1, 1) := by decide +kernel
theorem dc_M_readLine_273 : decode prog_14_method_27_code 273 = .ok (.iadd, 1) := by decide +kernel
theorem dc_M_readLine_274 : decode prog_14_method_27_code 274 = .ok (.ireturn, 1) := by decide +kernel
theorem dc_M_isAgent_0 : decode prog_14_method_28_code 0 = .ok (.iload_n 1, 1) := by decide +kernel
theorem dc_M_isAgent_1 : decode prog_14_method_28_code 1 = .ok (.ifCond .eq 38, 3) := by decide +kernel
theorem dc_M_isAgent_4 : decode prog_14_method_28_code 4 = .ok (.aload_n 0, 1) := by decide +kernel
theorem dc_M_isAgent_5 : decode prog_14_method_28_code 5 = .ok (.getfield 171, 3) := by decide +kernel
theorem dc_M_isAgent_8 : decode prog_14_method_28_code 8 = .ok (.aload_n 0, 1) := by decide +kernel
theorem dc_M_isAgent_9 : decode prog_14_method_28_code 9 = .ok (.getfield 168, 3) := by decide +kernel
theorem dc_M_isAgent_12 : decode prog_14_method_28_code 12 = .ok (.isub, 1) := by decide +kernel
theorem dc_M_isAgent_13 : decode prog_14_method_28_code 13 = .ok (.iconst 1, 1) := by decide +kernel
theorem dc_M_isAgent_14 : decode prog_14_method_28_code 14 = .ok (.if_icmp .ne 21, 3) := by decide +kernel
theorem dc_M_isAgent_17 : decode prog_14_method_28_code 17 = .ok (.aload_n 0, 1) := by decide +kernel
theorem dc_M_isAgent_18 : decode prog_14_method_28_code 18 = .ok (.getfield 140, 3) := by decide +kernel
theorem dc_M_isAgent_21 : decode prog_14_method_28_code 21 = .ok (.aload_n 0, 1) := by decide +kernel
theorem dc_M_isAgent_22 : decode prog_14_method_28_code 22 = .ok (.getfield 168, 3) := by decide +kernel
theorem dc_M_isAgent_25 : decode prog_14_method_28_code 25 = .ok (.baload, 1) := by decide +kernel
theorem dc_M_isAgent_26 : decode prog_14_method_28_code 26 = .ok (.bipush 42, 2) := by decide +kernel
theorem dc_M_isAgent_28 : decode prog_14_method_28_code 28 = .ok (.if_icmp .ne 7, 3) := by decide +kernel
theorem dc_M_isAgent_31 : decode prog_14_method_28_code 31 = .ok (.iconst 1, 1) := by decide +kernel
theorem dc_M_isAgent_32 : decode prog_14_method_28_code 32 = .ok (.goto 24, 3) := by decide +kernel
theorem dc_M_isAgent_35 : decode prog_14_method_28_code 35 = .ok (.iconst 0, 1) := by decide +kernel
theorem dc_M_isAgent_36 : decode prog_14_method_28_code 36 = .ok (.goto 20, 3) := by decide +kernel
theorem dc_M_isAgent_39 : decode prog_14_method_28_code 39 = .ok (.aload_n 0, 1) := by decide +kernel
theorem dc_M_isAgent_40 : decode prog_14_method_28_code 40 = .ok (.getfield 140, 3) := by decide +kernel
theorem dc_M_isAgent_43 : decode prog_14_method_28_code 43 = .ok (.aload_n 0, 1) := by decide +kernel
theorem dc_M_isAgent_44 : decode prog_14_method_28_code 44 = .ok (.getfield 168, 3) := by decide +kernel
theorem dc_M_isAgent_47 : decode prog_14_method_28_code 47 = .ok (.aload_n 0, 1) := by decide +kernel
theorem dc_M_isAgent_48 : decode prog_14_method_28_code 48 = .ok (.getfield 171, 3) := by decide +kernel
theorem dc_M_isAgent_51 : decode prog_14_method_28_code 51 = .ok (.ldc 174, 2) := by decide +kernel
theorem dc_M_isAgent_53 : decode prog_14_method_28_code 53 = .ok (.invokestatic 83, 3) := by decide +kernel
theorem dc_M_isAgent_56 : decode prog_14_method_28_code 56 = .ok (.ireturn, 1) := by decide +kernel
theorem dc_M_matches_0 : decode prog_14_method_30_code 0 = .ok (.aload_n 0, 1) := by decide +kernel
theorem dc_M_matches_1 : decode prog_14_method_30_code 1 = .ok (.iload_n 1, 1) := by decide +kernel
theorem dc_M_matches_2 : decode prog_14_method_30_code 2 = .ok (.invokevirtual 52, 3) := by decide +kernel
theorem dc_M_matches_5 : decode prog_14_method_30_code 5 = .ok (.istore_n 2, 1) := by decide +kernel
theorem dc_M_matches_6 : decode prog_14_method_30_code 6 = .ok (.aload_n 0, 1) := by decide +kernel
theorem dc_M_matches_7 : decode prog_14_method_30_code 7 = .ok (.getfield 31, 3) := by decide +kernel
theorem dc_M_matches_10 : decode prog_14_method_30_code 10 = .ok (.iload_n 1, 1) := by decide +kernel
theorem dc_M_matches_11 : decode prog_14_method_30_code 11 = .ok (.iaload, 1) := by decide +kernel
theorem dc_M_matches_12 : decode prog_14_method_30_code 12 = .ok (.aload_n 0, 1) := by decide +kernel
theorem dc_M_matches_13 : decode prog_14_method_30_code 13 = .ok (.getfield 35, 3) := by decide +kernel
theorem dc_M_matches_16 : decode prog_14_method_30_code 16 = .ok (.iload_n 1, 1) := by decide +kernel
theorem dc_M_matches_17 : decode prog_14_method_30_code 17 = .ok (.iaload, 1) := by decide +kernel
theorem dc_M_matches_18 : decode prog_14_method_30_code 18 = .ok (.iadd, 1) := by decide +kernel
theorem dc_M_matches_19 : decode prog_14_method_30_code 19 = .ok (.iload_n 2, 1) := by decide +kernel
theorem dc_M_matches_20 : decode prog_14_method_30_code 20 = .ok (.isub, 1) := by decide +kernel
theorem dc_M_matches_21 : decode prog_14_method_30_code 21 = .ok (.istore_n 3, 1) := by decide +kernel
theorem dc_M_matches_22 : decode prog_14_method_30_code 22 = .ok (.iconst 0, 1) := by decide +kernel
theorem dc_M_matches_23 : decode prog_14_method_30_code 23 = .ok (.istore 4, 2) := by decide +kernel
theorem dc_M_matches_25 : decode prog_14_method_30_code 25 = .ok (.iload 4, 2) := by decide +kernel
theorem dc_M_matches_27 : decode prog_14_method_30_code 27 = .ok (.iload_n 3, 1) := by decide +kernel
theorem dc_M_matches_28 : decode prog_14_method_30_code 28 = .ok (.if_icmp .gt 26, 3) := by decide +kernel
theorem dc_M_matches_31 : decode prog_14_method_30_code 31 = .ok (.aload_n 0, 1) := by decide +kernel
theorem dc_M_matches_32 : decode prog_14_method_30_code 32 = .ok (.getfield 184, 3) := by decide +kernel
theorem fl_M_184 : am_fl "WebFinderModel" 184 12 32 := ⟨"WebFinderModel", tt_M, 90, rfl, by decide, Or.inl (am_t7 143 rfl rfl)⟩
theorem dc_M_matches_35 : decode prog_14_method_30_code 35 = .ok (.iload 4, 2) := by decide +kernel
theorem dc_M_matches_37 : decode prog_14_method_30_code 37 = .ok (.iload 4, 2) := by decide +kernel
theorem dc_M_matches_39 : decode prog_14_method_30_code 39 = .ok (.ifCond .ne 7, 3) := by decide +kernel
theorem dc_M_matches_42 : decode prog_14_method_30_code 42 = .ok (.iconst 1, 1) := by decide +kernel
theorem dc_M_matches_43 : decode prog_14_method_30_code 43 = .ok (.goto 4, 3) := by decide +kernel
theorem dc_M_matches_46 : decode prog_14_method_30_code 46 = .ok (.iconst 0, 1) := by decide +kernel
theorem dc_M_matches_47 : decode prog_14_method_30_code 47 = .ok (.bastore, 1) := by decide +kernel
theorem dc_M_matches_48 : decode prog_14_method_30_code 48 = .ok (.iinc 4 1, 3) := by decide +kernel
theorem dc_M_matches_51 : decode prog_14_method_30_code 51 = .ok (.goto (-26), 3) := by decide +kernel
theorem dc_M_matches_54 : decode prog_14_method_30_code 54 = .ok (.iconst 0, 1) := by decide +kernel
theorem dc_M_matches_55 : decode prog_14_method_30_code 55 = .ok (.istore 4, 2) := by decide +kernel
theorem dc_M_matches_57 : decode prog_14_method_30_code 57 = .ok (.iload 4, 2) := by decide +kernel
theorem dc_M_matches_59 : decode prog_14_method_30_code 59 = .ok (.aload_n 0, 1) := by decide +kernel
theorem dc_M_matches_60 : decode prog_14_method_30_code 60 = .ok (.getfield 188, 3) := by decide +kernel
theorem dc_M_matches_63 : decode prog_14_method_30_code 63 = .ok (.if_icmp .ge 182, 3) := by decide +kernel
theorem dc_M_matches_66 : decode prog_14_method_30_code 66 = .ok (.aload_n 0, 1) := by decide +kernel
theorem dc_M_matches_67 : decode prog_14_method_30_code 67 = .ok (.getfield 191, 3) := by decide +kernel
theorem dc_M_matches_70 : decode prog_14_method_30_code 70 = .ok (.iload 4, 2) := by decide +kernel
theorem dc_M_matches_72 : decode prog_14_method_30_code 72 = .ok (.baload, 1) := by decide +kernel
theorem dc_M_matches_73 : decode prog_14_method_30_code 73 = .ok (.istore 5, 2) := by decide +kernel
theorem dc_M_matches_75 : decode prog_14_method_30_code 75 = .ok (.iload 5, 2) := by decide +kernel
theorem dc_M_matches_77 : decode prog_14_method_30_code 77 = .ok (.bipush 42, 2) := by decide +kernel
theorem dc_M_matches_79 : decode prog_14_method_30_code 79 = .ok (.if_icmp .ne 55, 3) := by decide +kernel
theorem dc_M_matches_82 : decode prog_14_method_30_code 82 = .ok (.iconst 1, 1) := by decide +kernel
theorem dc_M_matches_83 : decode prog_14_method_30_code 83 = .ok (.istore 6, 2) := by decide +kernel
theorem dc_M_matches_85 : decode prog_14_method_30_code 85 = .ok (.iload 6, 2) := by decide +kernel
theorem dc_M_matches_87 : decode prog_14_method_30_code 87 = .ok (.iload_n 3, 1) := by decide +kernel
theorem dc_M_matches_88 : decode prog_14_method_30_code 88 = .ok (.if_icmp .gt 43, 3) := by decide +kernel
theorem dc_M_matches_91 : decode prog_14_method_30_code 91 = .ok (.aload_n 0, 1) := by decide +kernel
theorem dc_M_matches_92 : decode prog_14_method_30_code 92 = .ok (.getfield 184, 3) := by decide +kernel
theorem dc_M_matches_95 : decode prog_14_method_30_code 95 = .ok (.iload 6, 2) := by decide +kernel
theorem dc_M_matches_97 : decode prog_14_method_30_code 97 = .ok (.aload_n 0, 1) := by decide +kernel
theorem dc_M_matches_98 : decode prog_14_method_30_code 98 = .ok (.getfield 184, 3) := by decide +kernel
theorem dc_M_matches_101 : decode prog_14_method_30_code 101 = .ok (.iload 6, 2) := by decide +kernel
theorem dc_M_matches_103 : decode prog_14_method_30_code 103 = .ok (.baload, 1) := by decide +kernel
theorem dc_M_matches_104 : decode prog_14_method_30_code 104 = .ok (.ifCond .ne 15, 3) := by decide +kernel
theorem dc_M_matches_107 : decode prog_14_method_30_code 107 = .ok (.aload_n 0, 1) := by decide +kernel
theorem dc_M_matches_108 : decode prog_14_method_30_code 108 = .ok (.getfield 184, 3) := by decide +kernel
theorem dc_M_matches_111 : decode prog_14_method_30_code 111 = .ok (.iload 6, 2) := by decide +kernel
theorem dc_M_matches_113 : decode prog_14_method_30_code 113 = .ok (.iconst 1, 1) := by decide +kernel
theorem dc_M_matches_114 : decode prog_14_method_30_code 114 = .ok (.isub, 1) := by decide +kernel
theorem dc_M_matches_115 : decode prog_14_method_30_code 115 = .ok (.baload, 1) := by decide +kernel
theorem dc_M_matches_116 : decode prog_14_method_30_code 116 = .ok (.ifCond .eq 7, 3) := by decide +kernel
theorem dc_M_matches_119 : decode prog_14_method_30_code 119 = .ok (.iconst 1, 1) := by decide +kernel
theorem dc_M_matches_120 : decode prog_14_method_30_code 120 = .ok (.goto 4, 3) := by decide +kernel
theorem dc_M_matches_123 : decode prog_14_method_30_code 123 = .ok (.iconst 0, 1) := by decide +kernel
theorem dc_M_matches_124 : decode prog_14_method_30_code 124 = .ok (.bastore, 1) := by decide +kernel
theorem dc_M_matches_125 : decode prog_14_method_30_code 125 = .ok (.iinc 6 1, 3) := by decide +kernel
theorem dc_M_matches_128 : decode prog_14_method_30_code 128 = .ok (.goto (-43), 3) := by decide +kernel
theorem dc_M_matches_131 : decode prog_14_method_30_code 131 = .ok (.goto 108, 3) := by decide +kernel
theorem dc_M_matches_134 : decode prog_14_method_30_code 134 = .ok (.iload 5, 2) := by decide +kernel
theorem dc_M_matches_136 : decode prog_14_method_30_code 136 = .ok (.bipush 36, 2) := by decide +kernel
theorem dc_M_matches_138 : decode prog_14_method_30_code 138 = .ok (.if_icmp .ne 40, 3) := by decide +kernel
theorem dc_M_matches_141 : decode prog_14_method_30_code 141 = .ok (.iload 4, 2) := by decide +kernel
theorem dc_M_matches_143 : decode prog_14_method_30_code 143 = .ok (.aload_n 0, 1) := by decide +kernel
theorem dc_M_matches_144 : decode prog_14_method_30_code 144 = .ok (.getfield 188, 3) := by decide +kernel
theorem dc_M_matches_147 : decode prog_14_method_30_code 147 = .ok (.iconst 1, 1) := by decide +kernel
theorem dc_M_matches_148 : decode prog_14_method_30_code 148 = .ok (.isub, 1) := by decide +kernel
theorem dc_M_matches_149 : decode prog_14_method_30_code 149 = .ok (.if_icmp .ne 29, 3) := by decide +kernel
theorem dc_M_matches_152 : decode prog_14_method_30_code 152 = .ok (.iconst 0, 1) := by decide +kernel
theorem dc_M_matches_153 : decode prog_14_method_30_code 153 = .ok (.istore 6, 2) := by decide +kernel
theorem dc_M_matches_155 : decode prog_14_method_30_code 155 = .ok (.iload 6, 2) := by decide +kernel
theorem dc_M_matches_157 : decode prog_14_method_30_code 157 = .ok (.iload_n 3, 1) := by decide +kernel
theorem dc_M_matches_158 : decode prog_14_method_30_code 158 = .ok (.if_icmp .ge 17, 3) := by decide +kernel
theorem dc_M_matches_161 : decode prog_14_method_30_code 161 = .ok (.aload_n 0, 1) := by decide +kernel
theorem dc_M_matches_162 : decode prog_14_method_30_code 162 = .ok (.getfield 184, 3) := by decide +kernel
theorem dc_M_matches_165 : decode prog_14_method_30_code 165 = .ok (.iload 6, 2) := by decide +kernel
theorem dc_M_matches_167 : decode prog_14_method_30_code 167 = .ok (.iconst 0, 1) := by decide +kernel
theorem dc_M_matches_168 : decode prog_14_method_30_code 168 = .ok (.bastore, 1) := by decide +kernel
theorem dc_M_matches_169 : decode prog_14_method_30_code 169 = .ok (.iinc 6 1, 3) := by decide +kernel
theorem dc_M_matches_172 : decode prog_14_method_30_code 172 = .ok (.goto (-17), 3) := by decide +kernel
theorem dc_M_matches_175 : decode prog_14_method_30_code 175 = .ok (.goto 64, 3) := by decide +kernel
theorem dc_M_matches_178 : decode prog_14_method_30_code 178 = .ok (.iload_n 3, 1) := by decide +kernel
theorem dc_M_matches_179 : decode prog_14_method_30_code 179 = .ok (.istore 6, 2) := by decide +kernel
theorem dc_M_matches_181 : decode prog_14_method_30_code 181 = .ok (.iload 6, 2) := by decide +kernel
theorem dc_M_matches_183 : decode prog_14_method_30_code 183 = .ok (.ifCond .le 49, 3) := by decide +kernel
theorem dc_M_matches_186 : decode prog_14_method_30_code 186 = .ok (.aload_n 0, 1) := by decide +kernel
theorem dc_M_matches_187 : decode prog_14_method_30_code 187 = .ok (.getfield 184, 3) := by decide +kernel
theorem dc_M_matches_190 : decode prog_14_method_30_code 190 = .ok (.iload 6, 2) := by decide +kernel
theorem dc_M_matches_192 : decode prog_14_method_30_code 192 = .ok (.aload_n 0, 1) := by decide +kernel
theorem dc_M_matches_193 : decode prog_14_method_30_code 193 = .ok (.getfield 184, 3) := by decide +kernel
theorem dc_M_matches_196 : decode prog_14_method_30_code 196 = .ok (.iload 6, 2) := by decide +kernel
theorem dc_M_matches_198 : decode prog_14_method_30_code 198 = .ok (.iconst 1, 1) := by decide +kernel
theorem dc_M_matches_199 : decode prog_14_method_30_code 199 = .ok (.isub, 1) := by decide +kernel
theorem dc_M_matches_200 : decode prog_14_method_30_code 200 = .ok (.baload, 1) := by decide +kernel
theorem dc_M_matches_201 : decode prog_14_method_30_code 201 = .ok (.ifCond .eq 23, 3) := by decide +kernel
theorem dc_M_matches_204 : decode prog_14_method_30_code 204 = .ok (.aload_n 0, 1) := by decide +kernel
theorem dc_M_matches_205 : decode prog_14_method_30_code 205 = .ok (.getfield 41, 3) := by decide +kernel
theorem dc_M_matches_208 : decode prog_14_method_30_code 208 = .ok (.iload_n 2, 1) := by decide +kernel
theorem dc_M_matches_209 : decode prog_14_method_30_code 209 = .ok (.iload 6, 2) := by decide +kernel
theorem dc_M_matches_211 : decode prog_14_method_30_code 211 = .ok (.iadd, 1) := by decide +kernel
theorem dc_M_matches_212 : decode prog_14_method_30_code 212 = .ok (.iconst 1, 1) := by decide +kernel
theorem dc_M_matches_213 : decode prog_14_method_30_code 213 = .ok (.isub, 1) := by decide +kernel
theorem dc_M_matches_214 : decode prog_14_method_30_code 214 = .ok (.baload, 1) := by decide +kernel
theorem dc_M_matches_215 : decode prog_14_method_30_code 215 = .ok (.iload 5, 2) := by decide +kernel
theorem dc_M_matches_217 : decode prog_14_method_30_code 217 = .ok (.if_icmp .ne 7, 3) := by decide +kernel
theorem dc_M_matches_220 : decode prog_14_method_30_code 220 = .ok (.iconst 1, 1) := by decide +kernel
theorem dc_M_matches_221 : decode prog_14_method_30_code 221 = .ok (.goto 4, 3) := by decide +kernel
theorem dc_M_matches_224 : decode prog_14_method_30_code 224 = .ok (.iconst 0, 1) := by decide +kernel
theorem dc_M_matches_225 : decode prog_14_method_30_code 225 = .ok (.bastore, 1) := by decide +kernel
theorem dc_M_matches_226 : decode prog_14_method_30_code 226 = .ok (.iinc 6 (-1), 3) := by decide +kernel
theorem dc_M_matches_229 : decode prog_14_method_30_code 229 = .ok (.goto (-48), 3) := by decide +kernel
theorem dc_M_matches_232 : decode prog_14_method_30_code 232 = .ok (.aload_n 0, 1) := by decide +kernel
theorem dc_M_matches_233 : decode prog_14_method_30_code 233 = .ok (.getfield 184, 3) := by decide +kernel
theorem dc_M_matches_236 : decode prog_14_method_30_code 236 = .ok (.iconst 0, 1) := by decide +kernel
theorem dc_M_matches_237 : decode prog_14_method_30_code 237 = .ok (.iconst 0, 1) := by decide +kernel
theorem dc_M_matches_238 : decode prog_14_method_30_code 238 = .ok (.bastore, 1) := by decide +kernel
theorem dc_M_matches_239 : decode prog_14_method_30_code 239 = .ok (.iinc 4 1, 3) := by decide +kernel
theorem dc_M_matches_242 : decode prog_14_method_30_code 242 = .ok (.goto (-185), 3) := by decide +kernel
theorem dc_M_matches_245 : decode prog_14_method_30_code 245 = .ok (.iconst 0, 1) := by decide +kernel
theorem dc_M_matches_246 : decode prog_14_method_30_code 246 = .ok (.istore 4, 2) := by decide +kernel
theorem dc_M_matches_248 : decode prog_14_method_30_code 248 = .ok (.iconst 0, 1) := by decide +kernel
theorem dc_M_matches_249 : decode prog_14_method_30_code 249 = .ok (.istore 5, 2) := by decide +kernel
theorem dc_M_matches_251 : decode prog_14_method_30_code 251 = .ok (.iload 5, 2) := by decide +kernel
theorem dc_M_matches_253 : decode prog_14_method_30_code 253 = .ok (.iload_n 3, 1) := by decide +kernel
theorem dc_M_matches_254 : decode prog_14_method_30_code 254 = .ok (.if_icmp .gt 31, 3) := by decide +kernel
theorem dc_M_matches_257 : decode prog_14_method_30_code 257 = .ok (.iload 4, 2) := by decide +kernel
theorem dc_M_matches_259 : decode prog_14_method_30_code 259 = .ok (.ifCond .ne 13, 3) := by decide +kernel
theorem dc_M_matches_262 : decode prog_14_method_30_code 262 = .ok (.aload_n 0, 1) := by decide +kernel
theorem dc_M_matches_263 : decode prog_14_method_30_code 263 = .ok (.getfield 184, 3) := by decide +kernel
theorem dc_M_matches_266 : decode prog_14_method_30_code 266 = .ok (.iload 5, 2) := by decide +kernel
theorem dc_M_matches_268 : decode prog_14_method_30_code 268 = .ok (.baload, 1) := by decide +kernel
theorem dc_M_matches_269 : decode prog_14_method_30_code 269 = .ok (.ifCond .eq 7, 3) := by decide +kernel
theorem dc_M_matches_272 : decode prog_14_method_30_code 272 = .ok (.iconst 1, 1) := by decide +kernel
theorem dc_M_matches_273 : decode prog_14_method_30_code 273 = .ok (.goto 4, 3) := by decide +kernel
theorem dc_M_matches_276 : decode prog_14_method_30_code 276 = .ok (.iconst 0, 1) := by decide +kernel
theorem dc_M_matches_277 : decode prog_14_method_30_code 277 = .ok (.istore 4, 2) := by decide +kernel
theorem dc_M_matches_279 : decode prog_14_method_30_code 279 = .ok (.iinc 5 1, 3) := by decide +kernel
theorem dc_M_matches_282 : decode prog_14_method_30_code 282 = .ok (.goto (-31), 3) := by decide +kernel
theorem dc_M_matches_285 : decode prog_14_method_30_code 285 = .ok (.iload 4, 2) := by decide +kernel
theorem dc_M_matches_287 : decode prog_14_method_30_code 287 = .ok (.ireturn, 1) := by decide +kernel
theorem dc_M_allowed_0 : decode prog_14_method_78_code 0 = .ok (.aload_n 0, 1) := by decide +kernel
theorem dc_M_allowed_1 : decode prog_14_method_78_code 1 = .ok (.invokevirtual 505, 3) := by decide +kernel
theorem dc_M_allowed_4 : decode prog_14_method_78_code 4 = .ok (.istore_n 1, 1) := by decide +kernel
theorem dc_M_allowed_5 : decode prog_14_method_78_code 5 = .ok (.aload_n 0, 1) := by decide +kernel
theorem dc_M_allowed_6 : decode prog_14_method_78_code 6 = .ok (.aload_n 0, 1) := by decide +kernel
theorem dc_M_allowed_7 : decode prog_14_method_78_code 7 = .ok (.getfield 143, 3) := by decide +kernel
theorem dc_M_allowed_10 : decode prog_14_method_78_code 10 = .ok (.iconst 0, 1) := by decide +kernel
theorem dc_M_allowed_11 : decode prog_14_method_78_code 11 = .ok (.iload_n 1, 1) := by decide +kernel
theorem dc_M_allowed_12 : decode prog_14_method_78_code 12 = .ok (.iconst (-1), 1) := by decide +kernel
theorem dc_M_allowed_13 : decode prog_14_method_78_code 13 = .ok (.invokevirtual 297, 3) := by decide +kernel
theorem dc_M_allowed_16 : decode prog_14_method_78_code 16 = .ok (.ifCond .ne 5, 3) := by decide +kernel
theorem dc_M_allowed_19 : decode prog_14_method_78_code 19 = .ok (.iconst (-1), 1) := by decide +kernel
theorem dc_M_allowed_20 : decode prog_14_method_78_code 20 = .ok (.ireturn, 1) := by decide +kernel
theorem dc_M_allowed_21 : decode prog_14_method_78_code 21 = .ok (.aload_n 0, 1) := by decide +kernel
theorem dc_M_allowed_22 : decode prog_14_method_78_code 22 = .ok (.aload_n 0, 1) := by decide +kernel
theorem dc_M_allowed_23 : decode prog_14_method_78_code 23 = .ok (.invokevirtual 300, 3) := by decide +kernel
theorem dc_M_allowed_26 : decode prog_14_method_78_code 26 = .ok (.invokevirtual 439, 3) := by decide +kernel
theorem dc_M_allowed_29 : decode prog_14_method_78_code 29 = .ok (.aload_n 0, 1) := by decide +kernel
theorem dc_M_allowed_30 : decode prog_14_method_78_code 30 = .ok (.getfield 197, 3) := by decide +kernel
theorem fl_M_197 : am_fl "WebFinderModel" 197 12 34 := ⟨"WebFinderModel", tt_M, 90, rfl, by decide, Or.inl (am_t7 145 rfl rfl)⟩
theorem dc_M_allowed_33 : decode prog_14_method_78_code 33 = .ok (.ifCond .eq 7, 3) := by decide +kernel
theorem dc_M_allowed_36 : decode prog_14_method_78_code 36 = .ok (.iconst 1, 1) := by decide +kernel
theorem dc_M_allowed_37 : decode prog_14_method_78_code 37 = .ok (.goto 4, 3) := by decide +kernel
theorem dc_M_allowed_40 : decode prog_14_method_78_code 40 = .ok (.iconst 0, 1) := by decide +kernel
theorem dc_M_allowed_41 : decode prog_14_method_78_code 41 = .ok (.ireturn, 1) := by decide +kernel
theorem dc_M_look_0 : decode prog_14_method_79_code 0 = .ok (.aload_n 0, 1) := by decide +kernel
theorem dc_M_look_1 : decode prog_14_method_79_code 1 = .ok (.invokevirtual 505, 3) := by decide +kernel
theorem dc_M_look_4 : decode prog_14_method_79_code 4 = .ok (.istore_n 2, 1) := by decide +kernel
theorem dc_M_look_5 : decode prog_14_method_79_code 5 = .ok (.iload_n 1, 1) := by decide +kernel
theorem dc_M_look_6 : decode prog_14_method_79_code 6 = .ok (.ifCond .lt 16, 3) := by decide +kernel
theorem dc_M_look_9 : decode prog_14_method_79_code 9 = .ok (.iload_n 1, 1) := by decide +kernel
theorem dc_M_look_10 : decode prog_14_method_79_code 10 = .ok (.iconst 1, 1) := by decide +kernel
theorem dc_M_look_11 : decode prog_14_method_79_code 11 = .ok (.if_icmp .gt 11, 3) := by decide +kernel
theorem dc_M_look_14 : decode prog_14_method_79_code 14 = .ok (.aload_n 0, 1) := by decide +kernel
theorem dc_M_look_15 : decode prog_14_method_79_code 15 = .ok (.iload_n 2, 1) := by decide +kernel
theorem dc_M_look_16 : decode prog_14_method_79_code 16 = .ok (.invokevirtual 508, 3) := by decide +kernel
theorem dc_M_look_19 : decode prog_14_method_79_code 19 = .ok (.ifCond .ne 5, 3) := by decide +kernel
theorem dc_M_look_22 : decode prog_14_method_79_code 22 = .ok (.iconst (-1), 1) := by decide +kernel
theorem dc_M_look_23 : decode prog_14_method_79_code 23 = .ok (.ireturn, 1) := by decide +kernel
theorem dc_M_look_24 : decode prog_14_method_79_code 24 = .ok (.aload_n 0, 1) := by decide +kernel
theorem dc_M_look_25 : decode prog_14_method_79_code 25 = .ok (.invokevirtual 300, 3) := by decide +kernel
theorem dc_M_look_28 : decode prog_14_method_79_code 28 = .ok (.istore_n 3, 1) := by decide +kernel
theorem dc_M_look_29 : decode prog_14_method_79_code 29 = .ok (.aload_n 0, 1) := by decide +kernel
theorem dc_M_look_30 : decode prog_14_method_79_code 30 = .ok (.aload_n 0, 1) := by decide +kernel
theorem dc_M_look_31 : decode prog_14_method_79_code 31 = .ok (.iload_n 2, 1) := by decide +kernel
theorem dc_M_look_32 : decode prog_14_method_79_code 32 = .ok (.invokevirtual 511, 3) := by decide +kernel
theorem dc_M_look_35 : decode prog_14_method_79_code 35 = .ok (.iload_n 2, 1) := by decide +kernel
theorem dc_M_look_36 : decode prog_14_method_79_code 36 = .ok (.invokevirtual 514, 3) := by decide +kernel
theorem dc_M_look_39 : decode prog_14_method_79_code 39 = .ok (.istore 4, 2) := by decide +kernel
theorem dc_M_look_41 : decode prog_14_method_79_code 41 = .ok (.aload_n 0, 1) := by decide +kernel
theorem dc_M_look_42 : decode prog_14_method_79_code 42 = .ok (.iload 4, 2) := by decide +kernel
theorem dc_M_look_44 : decode prog_14_method_79_code 44 = .ok (.iload_n 3, 1) := by decide +kernel
theorem dc_M_look_45 : decode prog_14_method_79_code 45 = .ok (.invokevirtual 449, 3) := by decide +kernel
theorem mo_M_findLinks : am_mo mt_M_findLinks 2 := ⟨⟨by decide +kernel, by decide +kernel⟩, by decide +kernel, ⟨by decide +kernel, by decide +kernel⟩, (am_t9 83 rfl rfl), (am_t1 11 rfl rfl), by decide +kernel⟩
theorem im_M_findLinks : Cond.instanceMethod mt_M_findLinks.1 ∈ am_gw := (am_t9 82 rfl rfl)
theorem se_M_findLinks : Cond.selects mt_M_findLinks.1.cls mt_M_findLinks.1 mt_M_findLinks.1 ∈ am_gw := am_in (List.mem_append_left _ (by decide +kernel)) rfl
theorem ln_M_449 : am_ln "WebFinderModel" 449 mt_M_findLinks.1 := Or.inl (am_t9 80 rfl rfl)
theorem dc_M_look_48 : decode prog_14_method_79_code 48 = .ok (.aload_n 0, 1) := by decide +kernel
theorem dc_M_look_49 : decode prog_14_method_79_code 49 = .ok (.dup, 1) := by decide +kernel
theorem dc_M_look_50 : decode prog_14_method_79_code 50 = .ok (.getfield 134, 3) := by decide +kernel
theorem dc_M_look_53 : decode prog_14_method_79_code 53 = .ok (.iconst 1, 1) := by decide +kernel
theorem dc_M_look_54 : decode prog_14_method_79_code 54 = .ok (.isub, 1) := by decide +kernel
theorem dc_M_look_55 : decode prog_14_method_79_code 55 = .ok (.putfield 134, 3) := by decide +kernel
theorem fp_M_look_134 : am_fp mt_M_look.1 134 12 23 (.int) := ⟨"WebFinderModel", tt_M, 90, rfl, by decide, ct_M 23 (by decide), Or.inl ⟨(am_t7 134 rfl rfl), Or.inl rfl⟩⟩
theorem dc_M_look_58 : decode prog_14_method_79_code 58 = .ok (.aload_n 0, 1) := by decide +kernel
theorem dc_M_look_59 : decode prog_14_method_79_code 59 = .ok (.aload_n 0, 1) := by decide +kernel
theorem dc_M_look_60 : decode prog_14_method_79_code 60 = .ok (.getfield 131, 3) := by decide +kernel
theorem dc_M_look_63 : decode prog_14_method_79_code 63 = .ok (.iload 4, 2) := by decide +kernel
theorem dc_M_look_65 : decode prog_14_method_79_code 65 = .ok (.iaload, 1) := by decide +kernel
theorem dc_M_look_66 : decode prog_14_method_79_code 66 = .ok (.putfield 137, 3) := by decide +kernel
theorem fp_M_look_137 : am_fp mt_M_look.1 137 12 20 (.int) := ⟨"WebFinderModel", tt_M, 90, rfl, by decide, ct_M 20 (by decide), Or.inl ⟨(am_t7 131 rfl rfl), Or.inl rfl⟩⟩
theorem dc_M_look_69 : decode prog_14_method_79_code 69 = .ok (.aload_n 0, 1) := by decide +kernel
theorem dc_M_look_70 : decode prog_14_method_79_code 70 = .ok (.iconst 0, 1) := by decide +kernel
theorem dc_M_look_71 : decode prog_14_method_79_code 71 = .ok (.putfield 499, 3) := by decide +kernel
theorem fp_M_look_499 : am_fp mt_M_look.1 499 12 4 (.int) := ⟨"WebFinderModel", tt_M, 90, rfl, by decide, ct_M 4 (by decide), Or.inl ⟨(am_t7 115 rfl rfl), Or.inl rfl⟩⟩
theorem dc_M_look_74 : decode prog_14_method_79_code 74 = .ok (.iconst 0, 1) := by decide +kernel
theorem dc_M_look_75 : decode prog_14_method_79_code 75 = .ok (.istore 5, 2) := by decide +kernel
theorem dc_M_look_77 : decode prog_14_method_79_code 77 = .ok (.iload 5, 2) := by decide +kernel
theorem dc_M_look_79 : decode prog_14_method_79_code 79 = .ok (.iload_n 1, 1) := by decide +kernel
theorem dc_M_look_80 : decode prog_14_method_79_code 80 = .ok (.ifCond .ne 10, 3) := by decide +kernel
theorem dc_M_look_83 : decode prog_14_method_79_code 83 = .ok (.aload_n 0, 1) := by decide +kernel
theorem dc_M_look_84 : decode prog_14_method_79_code 84 = .ok (.getfield 322, 3) := by decide +kernel
theorem fl_M_322 : am_fl "WebFinderModel" 322 12 56 := ⟨"WebFinderModel", tt_M, 90, rfl, by decide, Or.inl (am_t7 167 rfl rfl)⟩
theorem dc_M_look_87 : decode prog_14_method_79_code 87 = .ok (.goto 7, 3) := by decide +kernel
theorem dc_M_look_90 : decode prog_14_method_79_code 90 = .ok (.aload_n 0, 1) := by decide +kernel
theorem dc_M_look_91 : decode prog_14_method_79_code 91 = .ok (.getfield 223, 3) := by decide +kernel
theorem fl_M_223 : am_fl "WebFinderModel" 223 12 40 := ⟨"WebFinderModel", tt_M, 90, rfl, by decide, Or.inl (am_t7 151 rfl rfl)⟩
theorem dc_M_look_94 : decode prog_14_method_79_code 94 = .ok (.if_icmp .ge 135, 3) := by decide +kernel
theorem dc_M_look_97 : decode prog_14_method_79_code 97 = .ok (.iload_n 1, 1) := by decide +kernel
theorem dc_M_look_98 : decode prog_14_method_79_code 98 = .ok (.ifCond .ne 18, 3) := by decide +kernel
theorem dc_M_look_101 : decode prog_14_method_79_code 101 = .ok (.aload_n 0, 1) := by decide +kernel
theorem dc_M_look_102 : decode prog_14_method_79_code 102 = .ok (.getfield 35, 3) := by decide +kernel
theorem dc_M_look_105 : decode prog_14_method_79_code 105 = .ok (.aload_n 0, 1) := by decide +kernel
theorem dc_M_look_106 : decode prog_14_method_79_code 106 = .ok (.getfield 328, 3) := by decide +kernel
theorem fl_M_328 : am_fl "WebFinderModel" 328 12 55 := ⟨"WebFinderModel", tt_M, 90, rfl, by decide, Or.inl (am_t7 166 rfl rfl)⟩
theorem dc_M_look_109 : decode prog_14_method_79_code 109 = .ok (.iload 5, 2) := by decide +kernel
theorem dc_M_look_111 : decode prog_14_method_79_code 111 = .ok (.iaload, 1) := by decide +kernel
theorem dc_M_look_112 : decode prog_14_method_79_code 112 = .ok (.iaload, 1) := by decide +kernel
theorem dc_M_look_113 : decode prog_14_method_79_code 113 = .ok (.goto 10, 3) := by decide +kernel
theorem dc_M_look_116 : decode prog_14_method_79_code 116 = .ok (.aload_n 0, 1) := by decide +kernel
theorem dc_M_look_117 : decode prog_14_method_79_code 117 = .ok (.getfield 229, 3) := by decide +kernel
theorem fl_M_229 : am_fl "WebFinderModel" 229 12 39 := ⟨"WebFinderModel", tt_M, 90, rfl, by decide, Or.inl (am_t7 150 rfl rfl)⟩
theorem dc_M_look_120 : decode prog_14_method_79_code 120 = .ok (.iload 5, 2) := by decide +kernel
theorem dc_M_look_122 : decode prog_14_method_79_code 122 = .ok (.iaload, 1) := by decide +kernel
theorem dc_M_look_123 : decode prog_14_method_79_code 123 = .ok (.istore 6, 2) := by decide +kernel
theorem dc_M_look_125 : decode prog_14_method_79_code 125 = .ok (.iconst 0, 1) := by decide +kernel
theorem dc_M_look_126 : decode prog_14_method_79_code 126 = .ok (.istore 7, 2) := by decide +kernel
theorem dc_M_look_128 : decode prog_14_method_79_code 128 = .ok (.iload 7, 2) := by decide +kernel
theorem dc_M_look_130 : decode prog_14_method_79_code 130 = .ok (.iload 6, 2) := by decide +kernel
theorem dc_M_look_132 : decode prog_14_method_79_code 132 = .ok (.if_icmp .ge 70, 3) := by decide +kernel
theorem dc_M_look_135 : decode prog_14_method_79_code 135 = .ok (.aload_n 0, 1) := by decide +kernel
theorem dc_M_look_136 : decode prog_14_method_79_code 136 = .ok (.getfield 337, 3) := by decide +kernel
theorem dc_M_look_139 : decode prog_14_method_79_code 139 = .ok (.aload_n 0, 1) := by decide +kernel
theorem dc_M_look_140 : decode prog_14_method_79_code 140 = .ok (.getfield 499, 3) := by decide +kernel
theorem dc_M_look_143 : decode prog_14_method_79_code 143 = .ok (.iload_n 1, 1) := by decide +kernel
theorem dc_M_look_144 : decode prog_14_method_79_code 144 = .ok (.ifCond .ne 26, 3) := by decide +kernel
theorem dc_M_look_147 : decode prog_14_method_79_code 147 = .ok (.aload_n 0, 1) := by decide +kernel
theorem dc_M_look_148 : decode prog_14_method_79_code 148 = .ok (.getfield 41, 3) := by decide +kernel
theorem dc_M_look_151 : decode prog_14_method_79_code 151 = .ok (.aload_n 0, 1) := by decide +kernel
theorem dc_M_look_152 : decode prog_14_method_79_code 152 = .ok (.getfield 31, 3) := by decide +kernel
theorem dc_M_look_155 : decode prog_14_method_79_code 155 = .ok (.aload_n 0, 1) := by decide +kernel
theorem dc_M_look_156 : decode prog_14_method_79_code 156 = .ok (.getfield 328, 3) := by decide +kernel
theorem dc_M_look_159 : decode prog_14_method_79_code 159 = .ok (.iload 5, 2) := by decide +kernel
theorem dc_M_look_161 : decode prog_14_method_79_code 161 = .ok (.iaload, 1) := by decide +kernel
theorem dc_M_look_162 : decode prog_14_method_79_code 162 = .ok (.iaload, 1) := by decide +kernel
theorem dc_M_look_163 : decode prog_14_method_79_code 163 = .ok (.iload 7, 2) := by decide +kernel
theorem dc_M_look_165 : decode prog_14_method_79_code 165 = .ok (.iadd, 1) := by decide +kernel
theorem dc_M_look_166 : decode prog_14_method_79_code 166 = .ok (.baload, 1) := by decide +kernel
theorem dc_M_look_167 : decode prog_14_method_79_code 167 = .ok (.goto 18, 3) := by decide +kernel
theorem dc_M_look_170 : decode prog_14_method_79_code 170 = .ok (.aload_n 0, 1) := by decide +kernel
theorem dc_M_look_171 : decode prog_14_method_79_code 171 = .ok (.getfield 232, 3) := by decide +kernel
theorem fl_M_232 : am_fl "WebFinderModel" 232 12 37 := ⟨"WebFinderModel", tt_M, 90, rfl, by decide, Or.inl (am_t7 148 rfl rfl)⟩
theorem dc_M_look_174 : decode prog_14_method_79_code 174 = .ok (.aload_n 0, 1) := by decide +kernel
theorem dc_M_look_175 : decode prog_14_method_79_code 175 = .ok (.getfield 226, 3) := by decide +kernel
theorem fl_M_226 : am_fl "WebFinderModel" 226 12 38 := ⟨"WebFinderModel", tt_M, 90, rfl, by decide, Or.inl (am_t7 149 rfl rfl)⟩
theorem dc_M_look_178 : decode prog_14_method_79_code 178 = .ok (.iload 5, 2) := by decide +kernel
theorem dc_M_look_180 : decode prog_14_method_79_code 180 = .ok (.iaload, 1) := by decide +kernel
theorem dc_M_look_181 : decode prog_14_method_79_code 181 = .ok (.iload 7, 2) := by decide +kernel
theorem dc_M_look_183 : decode prog_14_method_79_code 183 = .ok (.iadd, 1) := by decide +kernel
theorem dc_M_look_184 : decode prog_14_method_79_code 184 = .ok (.baload, 1) := by decide +kernel
theorem dc_M_look_185 : decode prog_14_method_79_code 185 = .ok (.bastore, 1) := by decide +kernel
theorem dc_M_look_186 : decode prog_14_method_79_code 186 = .ok (.aload_n 0, 1) := by decide +kernel
theorem dc_M_look_187 : decode prog_14_method_79_code 187 = .ok (.dup, 1) := by decide +kernel
theorem dc_M_look_188 : decode prog_14_method_79_code 188 = .ok (.getfield 499, 3) := by decide +kernel
theorem dc_M_look_191 : decode prog_14_method_79_code 191 = .ok (.iconst 1, 1) := by decide +kernel
theorem dc_M_look_192 : decode prog_14_method_79_code 192 = .ok (.iadd, 1) := by decide +kernel
theorem dc_M_look_193 : decode prog_14_method_79_code 193 = .ok (.putfield 499, 3) := by decide +kernel
theorem dc_M_look_196 : decode prog_14_method_79_code 196 = .ok (.iinc 7 1, 3) := by decide +kernel
theorem dc_M_look_199 : decode prog_14_method_79_code 199 = .ok (.goto (-71), 3) := by decide +kernel
theorem dc_M_look_202 : decode prog_14_method_79_code 202 = .ok (.aload_n 0, 1) := by decide +kernel
theorem dc_M_look_203 : decode prog_14_method_79_code 203 = .ok (.getfield 337, 3) := by decide +kernel
theorem dc_M_look_206 : decode prog_14_method_79_code 206 = .ok (.aload_n 0, 1) := by decide +kernel
theorem dc_M_look_207 : decode prog_14_method_79_code 207 = .ok (.getfield 499, 3) := by decide +kernel
theorem dc_M_look_210 : decode prog_14_method_79_code 210 = .ok (.bipush 10, 2) := by decide +kernel
theorem dc_M_look_212 : decode prog_14_method_79_code 212 = .ok (.bastore, 1) := by decide +kernel
theorem dc_M_look_213 : decode prog_14_method_79_code 213 = .ok (.aload_n 0, 1) := by decide +kernel
theorem dc_M_look_214 : decode prog_14_method_79_code 214 = .ok (.dup, 1) := by decide +kernel
theorem dc_M_look_215 : decode prog_14_method_79_code 215 = .ok (.getfield 499, 3) := by decide +kernel
theorem dc_M_look_218 : decode prog_14_method_79_code 218 = .ok (.iconst 1, 1) := by decide +kernel
theorem dc_M_look_219 : decode prog_14_method_79_code 219 = .ok (.iadd, 1) := by decide +kernel
theorem dc_M_look_220 : decode prog_14_method_79_code 220 = .ok (.putfield 499, 3) := by decide +kernel
theorem dc_M_look_223 : decode prog_14_method_79_code 223 = .ok (.iinc 5 1, 3) := by decide +kernel
theorem dc_M_look_226 : decode prog_14_method_79_code 226 = .ok (.goto (-149), 3) := by decide +kernel
theorem dc_M_look_229 : decode prog_14_method_79_code 229 = .ok (.iload_n 1, 1) := by decide +kernel
theorem dc_M_look_230 : decode prog_14_method_79_code 230 = .ok (.ifCond .ne 10, 3) := by decide +kernel
theorem dc_M_look_233 : decode prog_14_method_79_code 233 = .ok (.aload_n 0, 1) := by decide +kernel
theorem dc_M_look_234 : decode prog_14_method_79_code 234 = .ok (.getfield 322, 3) := by decide +kernel
theorem dc_M_look_237 : decode prog_14_method_79_code 237 = .ok (.goto 7, 3) := by decide +kernel
theorem dc_M_look_240 : decode prog_14_method_79_code 240 = .ok (.aload_n 0, 1) := by decide +kernel
theorem dc_M_look_241 : decode prog_14_method_79_code 241 = .ok (.getfield 223, 3) := by decide +kernel
theorem dc_M_look_244 : decode prog_14_method_79_code 244 = .ok (.ireturn, 1) := by decide +kernel
theorem dc_M_findLinks_0 : decode prog_14_method_44_code 0 = .ok (.aload_n 0, 1) := by decide +kernel
theorem dc_M_findLinks_1 : decode prog_14_method_44_code 1 = .ok (.aload_n 0, 1) := by decide +kernel
theorem dc_M_findLinks_2 : decode prog_14_method_44_code 2 = .ok (.getfield 131, 3) := by decide +kernel
theorem dc_M_findLinks_5 : decode prog_14_method_44_code 5 = .ok (.iload_n 1, 1) := by decide +kernel
theorem dc_M_findLinks_6 : decode prog_14_method_44_code 6 = .ok (.iaload, 1) := by decide +kernel
theorem dc_M_findLinks_7 : decode prog_14_method_44_code 7 = .ok (.aload_n 0, 1) := by decide +kernel
theorem dc_M_findLinks_8 : decode prog_14_method_44_code 8 = .ok (.getfield 146, 3) := by decide +kernel
theorem dc_M_findLinks_11 : decode prog_14_method_44_code 11 = .ok (.iload_n 1, 1) := by decide +kernel
theorem dc_M_findLinks_12 : decode prog_14_method_44_code 12 = .ok (.iaload, 1) := by decide +kernel
theorem dc_M_findLinks_13 : decode prog_14_method_44_code 13 = .ok (.iload_n 2, 1) := by decide +kernel
theorem dc_M_findLinks_14 : decode prog_14_method_44_code 14 = .ok (.invokevirtual 318, 3) := by decide +kernel
theorem mo_M_readPage : am_mo mt_M_readPage 3 := ⟨⟨by decide +kernel, by decide +kernel⟩, by decide +kernel, ⟨by decide +kernel, by decide +kernel⟩, (am_t9 87 rfl rfl), (am_t1 11 rfl rfl), by decide +kernel⟩
theorem im_M_readPage : Cond.instanceMethod mt_M_readPage.1 ∈ am_gw := (am_t9 86 rfl rfl)
theorem se_M_readPage : Cond.selects mt_M_readPage.1.cls mt_M_readPage.1 mt_M_readPage.1 ∈ am_gw := am_in (List.mem_append_left _ (by decide +kernel)) rfl
theorem ln_M_318 : am_ln "WebFinderModel" 318 mt_M_readPage.1 := Or.inl (am_t9 84 rfl rfl)
theorem dc_M_findLinks_17 : decode prog_14_method_44_code 17 = .ok (.aload_n 0, 1) := by decide +kernel
theorem dc_M_findLinks_18 : decode prog_14_method_44_code 18 = .ok (.iconst 0, 1) := by decide +kernel
theorem dc_M_findLinks_19 : decode prog_14_method_44_code 19 = .ok (.putfield 322, 3) := by decide +kernel
theorem fp_M_findLinks_322 : am_fp mt_M_findLinks.1 322 12 56 (.int) := ⟨"WebFinderModel", tt_M, 90, rfl, by decide, ct_M 56 (by decide), Or.inl ⟨(am_t7 167 rfl rfl), Or.inl rfl⟩⟩
theorem dc_M_findLinks_22 : decode prog_14_method_44_code 22 = .ok (.iconst 0, 1) := by decide +kernel
theorem dc_M_findLinks_23 : decode prog_14_method_44_code 23 = .ok (.istore_n 3, 1) := by decide +kernel
theorem dc_M_findLinks_24 : decode prog_14_method_44_code 24 = .ok (.iload_n 3, 1) := by decide +kernel
theorem dc_M_findLinks_25 : decode prog_14_method_44_code 25 = .ok (.aload_n 0, 1) := by decide +kernel
theorem dc_M_findLinks_26 : decode prog_14_method_44_code 26 = .ok (.getfield 248, 3) := by decide +kernel
theorem fl_M_248 : am_fl "WebFinderModel" 248 12 44 := ⟨"WebFinderModel", tt_M, 90, rfl, by decide, Or.inl (am_t7 155 rfl rfl)⟩
theorem dc_M_findLinks_29 : decode prog_14_method_44_code 29 = .ok (.if_icmp .ge 103, 3) := by decide +kernel
theorem dc_M_findLinks_32 : decode prog_14_method_44_code 32 = .ok (.aload_n 0, 1) := by decide +kernel
theorem dc_M_findLinks_33 : decode prog_14_method_44_code 33 = .ok (.getfield 322, 3) := by decide +kernel
theorem dc_M_findLinks_36 : decode prog_14_method_44_code 36 = .ok (.bipush 60, 2) := by decide +kernel
theorem dc_M_findLinks_38 : decode prog_14_method_44_code 38 = .ok (.if_icmp .ge 94, 3) := by decide +kernel
theorem dc_M_findLinks_41 : decode prog_14_method_44_code 41 = .ok (.aload_n 0, 1) := by decide +kernel
theorem dc_M_findLinks_42 : decode prog_14_method_44_code 42 = .ok (.iload_n 3, 1) := by decide +kernel
theorem dc_M_findLinks_43 : decode prog_14_method_44_code 43 = .ok (.invokevirtual 325, 3) := by decide +kernel
theorem mo_M_readLink : am_mo mt_M_readLink 1 := ⟨⟨by decide +kernel, by decide +kernel⟩, by decide +kernel, ⟨by decide +kernel, by decide +kernel⟩, (am_t9 133 rfl rfl), (am_t1 11 rfl rfl), by decide +kernel⟩
theorem im_M_readLink : Cond.instanceMethod mt_M_readLink.1 ∈ am_gw := (am_t9 132 rfl rfl)
theorem se_M_readLink : Cond.selects mt_M_readLink.1.cls mt_M_readLink.1 mt_M_readLink.1 ∈ am_gw := am_in (List.mem_append_left _ (by decide +kernel)) rfl
theorem ln_M_325 : am_ln "WebFinderModel" 325 mt_M_readLink.1 := Or.inl (am_t9 130 rfl rfl)
theorem dc_M_findLinks_46 : decode prog_14_method_44_code 46 = .ok (.ifCond .eq 80, 3) := by decide +kernel
theorem dc_M_findLinks_49 : decode prog_14_method_44_code 49 = .ok (.aload_n 0, 1) := by decide +kernel
theorem dc_M_findLinks_50 : decode prog_14_method_44_code 50 = .ok (.invokevirtual 300, 3) := by decide +kernel
theorem dc_M_findLinks_53 : decode prog_14_method_44_code 53 = .ok (.istore 4, 2) := by decide +kernel
theorem dc_M_findLinks_55 : decode prog_14_method_44_code 55 = .ok (.iconst 0, 1) := by decide +kernel
theorem dc_M_findLinks_56 : decode prog_14_method_44_code 56 = .ok (.istore 5, 2) := by decide +kernel
theorem dc_M_findLinks_58 : decode prog_14_method_44_code 58 = .ok (.iconst 0, 1) := by decide +kernel
theorem dc_M_findLinks_59 : decode prog_14_method_44_code 59 = .ok (.istore 6, 2) := by decide +kernel
theorem dc_M_findLinks_61 : decode prog_14_method_44_code 61 = .ok (.iload 6, 2) := by decide +kernel
theorem dc_M_findLinks_63 : decode prog_14_method_44_code 63 = .ok (.aload_n 0, 1) := by decide +kernel
theorem dc_M_findLinks_64 : decode prog_14_method_44_code 64 = .ok (.getfield 322, 3) := by decide +kernel
theorem dc_M_findLinks_67 : decode prog_14_method_44_code 67 = .ok (.if_icmp .ge 33, 3) := by decide +kernel
theorem dc_M_findLinks_70 : decode prog_14_method_44_code 70 = .ok (.iload 5, 2) := by decide +kernel
theorem dc_M_findLinks_72 : decode prog_14_method_44_code 72 = .ok (.ifCond .ne 15, 3) := by decide +kernel
theorem dc_M_findLinks_75 : decode prog_14_method_44_code 75 = .ok (.aload_n 0, 1) := by decide +kernel
theorem dc_M_findLinks_76 : decode prog_14_method_44_code 76 = .ok (.getfield 328, 3) := by decide +kernel
theorem dc_M_findLinks_79 : decode prog_14_method_44_code 79 = .ok (.iload 6, 2) := by decide +kernel
theorem dc_M_findLinks_81 : decode prog_14_method_44_code 81 = .ok (.iaload, 1) := by decide +kernel
theorem dc_M_findLinks_82 : decode prog_14_method_44_code 82 = .ok (.iload 4, 2) := by decide +kernel
theorem dc_M_findLinks_84 : decode prog_14_method_44_code 84 = .ok (.if_icmp .ne 7, 3) := by decide +kernel
theorem dc_M_findLinks_87 : decode prog_14_method_44_code 87 = .ok (.iconst 1, 1) := by decide +kernel
theorem dc_M_findLinks_88 : decode prog_14_method_44_code 88 = .ok (.goto 4, 3) := by decide +kernel
theorem dc_M_findLinks_91 : decode prog_14_method_44_code 91 = .ok (.iconst 0, 1) := by decide +kernel
theorem dc_M_findLinks_92 : decode prog_14_method_44_code 92 = .ok (.istore 5, 2) := by decide +kernel
theorem dc_M_findLinks_94 : decode prog_14_method_44_code 94 = .ok (.iinc 6 1, 3) := by decide +kernel
theorem dc_M_findLinks_97 : decode prog_14_method_44_code 97 = .ok (.goto (-36), 3) := by decide +kernel
theorem dc_M_findLinks_100 : decode prog_14_method_44_code 100 = .ok (.iload 5, 2) := by decide +kernel
theorem dc_M_findLinks_102 : decode prog_14_method_44_code 102 = .ok (.ifCond .ne 24, 3) := by decide +kernel
theorem dc_M_findLinks_105 : decode prog_14_method_44_code 105 = .ok (.aload_n 0, 1) := by decide +kernel
theorem dc_M_findLinks_106 : decode prog_14_method_44_code 106 = .ok (.getfield 328, 3) := by decide +kernel
theorem dc_M_findLinks_109 : decode prog_14_method_44_code 109 = .ok (.aload_n 0, 1) := by decide +kernel
theorem dc_M_findLinks_110 : decode prog_14_method_44_code 110 = .ok (.getfield 322, 3) := by decide +kernel
theorem dc_M_findLinks_113 : decode prog_14_method_44_code 113 = .ok (.iload 4, 2) := by decide +kernel
theorem dc_M_findLinks_115 : decode prog_14_method_44_code 115 = .ok (.iastore, 1) := by decide +kernel
theorem dc_M_findLinks_116 : decode prog_14_method_44_code 116 = .ok (.aload_n 0, 1) := by decide +kernel
theorem dc_M_findLinks_117 : decode prog_14_method_44_code 117 = .ok (.dup, 1) := by decide +kernel
theorem dc_M_findLinks_118 : decode prog_14_method_44_code 118 = .ok (.getfield 322, 3) := by decide +kernel
theorem dc_M_findLinks_121 : decode prog_14_method_44_code 121 = .ok (.iconst 1, 1) := by decide +kernel
theorem dc_M_findLinks_122 : decode prog_14_method_44_code 122 = .ok (.iadd, 1) := by decide +kernel
theorem dc_M_findLinks_123 : decode prog_14_method_44_code 123 = .ok (.putfield 322, 3) := by decide +kernel
theorem dc_M_findLinks_126 : decode prog_14_method_44_code 126 = .ok (.iinc 3 1, 3) := by decide +kernel
theorem dc_M_findLinks_129 : decode prog_14_method_44_code 129 = .ok (.goto (-105), 3) := by decide +kernel
theorem dc_M_findLinks_132 : decode prog_14_method_44_code 132 = .ok (.return_, 1) := by decide +kernel
theorem dc_M_readPage_0 : decode prog_14_method_37_code 0 = .ok (.aload_n 0, 1) := by decide +kernel
theorem dc_M_readPage_1 : decode prog_14_method_37_code 1 = .ok (.iconst 0, 1) := by decide +kernel
theorem dc_M_readPage_2 : decode prog_14_method_37_code 2 = .ok (.putfield 223, 3) := by decide +kernel
theorem fp_M_readPage_223 : am_fp mt_M_readPage.1 223 12 40 (.int) := ⟨"WebFinderModel", tt_M, 90, rfl, by decide, ct_M 40 (by decide), Or.inl ⟨(am_t7 151 rfl rfl), Or.inl rfl⟩⟩
theorem dc_M_readPage_5 : decode prog_14_method_37_code 5 = .ok (.aload_n 0, 1) := by decide +kernel
theorem dc_M_readPage_6 : decode prog_14_method_37_code 6 = .ok (.iconst 0, 1) := by decide +kernel
theorem dc_M_readPage_7 : decode prog_14_method_37_code 7 = .ok (.putfield 248, 3) := by decide +kernel
theorem fp_M_readPage_248 : am_fp mt_M_readPage.1 248 12 44 (.int) := ⟨"WebFinderModel", tt_M, 90, rfl, by decide, ct_M 44 (by decide), Or.inl ⟨(am_t7 155 rfl rfl), Or.inl rfl⟩⟩
theorem dc_M_readPage_10 : decode prog_14_method_37_code 10 = .ok (.aload_n 0, 1) := by decide +kernel
theorem dc_M_readPage_11 : decode prog_14_method_37_code 11 = .ok (.iconst 0, 1) := by decide +kernel
theorem dc_M_readPage_12 : decode prog_14_method_37_code 12 = .ok (.putfield 251, 3) := by decide +kernel
theorem fp_M_readPage_251 : am_fp mt_M_readPage.1 251 12 46 (.boolean) := ⟨"WebFinderModel", tt_M, 90, rfl, by decide, ct_M 46 (by decide), Or.inl ⟨(am_t7 157 rfl rfl), Or.inl rfl⟩⟩
theorem dc_M_readPage_15 : decode prog_14_method_37_code 15 = .ok (.aload_n 0, 1) := by decide +kernel
theorem dc_M_readPage_16 : decode prog_14_method_37_code 16 = .ok (.iload_n 3, 1) := by decide +kernel
theorem dc_M_readPage_17 : decode prog_14_method_37_code 17 = .ok (.putfield 254, 3) := by decide +kernel
theorem fp_M_readPage_254 : am_fp mt_M_readPage.1 254 12 45 (.int) := ⟨"WebFinderModel", tt_M, 90, rfl, by decide, ct_M 45 (by decide), Or.inl ⟨(am_t7 156 rfl rfl), Or.inl rfl⟩⟩
theorem dc_M_readPage_20 : decode prog_14_method_37_code 20 = .ok (.iload_n 1, 1) := by decide +kernel
theorem dc_M_readPage_21 : decode prog_14_method_37_code 21 = .ok (.istore 4, 2) := by decide +kernel
theorem dc_M_readPage_23 : decode prog_14_method_37_code 23 = .ok (.iload_n 1, 1) := by decide +kernel
theorem dc_M_readPage_24 : decode prog_14_method_37_code 24 = .ok (.istore 5, 2) := by decide +kernel
theorem dc_M_readPage_26 : decode prog_14_method_37_code 26 = .ok (.iload 5, 2) := by decide +kernel
theorem dc_M_readPage_28 : decode prog_14_method_37_code 28 = .ok (.iload_n 2, 1) := by decide +kernel
theorem dc_M_readPage_29 : decode prog_14_method_37_code 29 = .ok (.if_icmp .ge 53, 3) := by decide +kernel
theorem dc_M_readPage_32 : decode prog_14_method_37_code 32 = .ok (.aload_n 0, 1) := by decide +kernel
theorem dc_M_readPage_33 : decode prog_14_method_37_code 33 = .ok (.getfield 140, 3) := by decide +kernel
theorem dc_M_readPage_36 : decode prog_14_method_37_code 36 = .ok (.iload 5, 2) := by decide +kernel
theorem dc_M_readPage_38 : decode prog_14_method_37_code 38 = .ok (.baload, 1) := by decide +kernel
theorem dc_M_readPage_39 : decode prog_14_method_37_code 39 = .ok (.bipush 60, 2) := by decide +kernel
theorem dc_M_readPage_41 : decode prog_14_method_37_code 41 = .ok (.if_icmp .ne 16, 3) := by decide +kernel
theorem dc_M_readPage_44 : decode prog_14_method_37_code 44 = .ok (.aload_n 0, 1) := by decide +kernel
theorem dc_M_readPage_45 : decode prog_14_method_37_code 45 = .ok (.iload 5, 2) := by decide +kernel
theorem dc_M_readPage_47 : decode prog_14_method_37_code 47 = .ok (.iload_n 2, 1) := by decide +kernel
theorem dc_M_readPage_48 : decode prog_14_method_37_code 48 = .ok (.iload_n 3, 1) := by decide +kernel
theorem dc_M_readPage_49 : decode prog_14_method_37_code 49 = .ok (.iload 4, 2) := by decide +kernel
theorem dc_M_readPage_51 : decode prog_14_method_37_code 51 = .ok (.invokevirtual 257, 3) := by decide +kernel
theorem mo_M_markupEnd : am_mo mt_M_markupEnd 4 := ⟨⟨by decide +kernel, by decide +kernel⟩, by decide +kernel, ⟨by decide +kernel, by decide +kernel⟩, (am_t9 91 rfl rfl), (am_t1 11 rfl rfl), by decide +kernel⟩
theorem im_M_markupEnd : Cond.instanceMethod mt_M_markupEnd.1 ∈ am_gw := (am_t9 90 rfl rfl)
theorem se_M_markupEnd : Cond.selects mt_M_markupEnd.1.cls mt_M_markupEnd.1 mt_M_markupEnd.1 ∈ am_gw := am_in (List.mem_append_left _ (by decide +kernel)) rfl
theorem ln_M_257 : am_ln "WebFinderModel" 257 mt_M_markupEnd.1 := Or.inl (am_t9 88 rfl rfl)
theorem dc_M_readPage_54 : decode prog_14_method_37_code 54 = .ok (.goto 4, 3) := by decide +kernel
theorem dc_M_readPage_57 : decode prog_14_method_37_code 57 = .ok (.iconst (-1), 1) := by decide +kernel
theorem dc_M_readPage_58 : decode prog_14_method_37_code 58 = .ok (.istore 6, 2) := by decide +kernel
theorem dc_M_readPage_60 : decode prog_14_method_37_code 60 = .ok (.iload 6, 2) := by decide +kernel
theorem dc_M_readPage_62 : decode prog_14_method_37_code 62 = .ok (.ifCond .ge 9, 3) := by decide +kernel
theorem dc_M_readPage_65 : decode prog_14_method_37_code 65 = .ok (.iinc 5 1, 3) := by decide +kernel
theorem dc_M_readPage_68 : decode prog_14_method_37_code 68 = .ok (.goto 11, 3) := by decide +kernel
theorem dc_M_readPage_71 : decode prog_14_method_37_code 71 = .ok (.iload 6, 2) := by decide +kernel
theorem dc_M_readPage_73 : decode prog_14_method_37_code 73 = .ok (.istore 5, 2) := by decide +kernel
theorem dc_M_readPage_75 : decode prog_14_method_37_code 75 = .ok (.iload 6, 2) := by decide +kernel
theorem dc_M_readPage_77 : decode prog_14_method_37_code 77 = .ok (.istore 4, 2) := by decide +kernel
theorem dc_M_readPage_79 : decode prog_14_method_37_code 79 = .ok (.goto (-53), 3) := by decide +kernel
theorem dc_M_readPage_82 : decode prog_14_method_37_code 82 = .ok (.aload_n 0, 1) := by decide +kernel
theorem dc_M_readPage_83 : decode prog_14_method_37_code 83 = .ok (.iload 4, 2) := by decide +kernel
theorem dc_M_readPage_85 : decode prog_14_method_37_code 85 = .ok (.iload_n 2, 1) := by decide +kernel
theorem dc_M_readPage_86 : decode prog_14_method_37_code 86 = .ok (.invokevirtual 261, 3) := by decide +kernel
theorem mo_M_flush : am_mo mt_M_flush 2 := ⟨⟨by decide +kernel, by decide +kernel⟩, by decide +kernel, ⟨by decide +kernel, by decide +kernel⟩, (am_t9 95 rfl rfl), (am_t1 11 rfl rfl), by decide +kernel⟩
theorem im_M_flush : Cond.instanceMethod mt_M_flush.1 ∈ am_gw := (am_t9 94 rfl rfl)
theorem se_M_flush : Cond.selects mt_M_flush.1.cls mt_M_flush.1 mt_M_flush.1 ∈ am_gw := am_in (List.mem_append_left _ (by decide +kernel)) rfl
theorem ln_M_261 : am_ln "WebFinderModel" 261 mt_M_flush.1 := Or.inl (am_t9 92 rfl rfl)
theorem dc_M_readPage_89 : decode prog_14_method_37_code 89 = .ok (.return_, 1) := by decide +kernel
theorem dc_M_markupEnd_0 : decode prog_14_method_38_code 0 = .ok (.iload_n 1, 1) := by decide +kernel
theorem dc_M_markupEnd_1 : decode prog_14_method_38_code 1 = .ok (.iconst 1, 1) := by decide +kernel
theorem dc_M_markupEnd_2 : decode prog_14_method_38_code 2 = .ok (.iadd, 1) := by decide +kernel
theorem dc_M_markupEnd_3 : decode prog_14_method_38_code 3 = .ok (.iload_n 2, 1) := by decide +kernel
theorem dc_M_markupEnd_4 : decode prog_14_method_38_code 4 = .ok (.if_icmp .ge 14, 3) := by decide +kernel
theorem dc_M_markupEnd_7 : decode prog_14_method_38_code 7 = .ok (.aload_n 0, 1) := by decide +kernel
theorem dc_M_markupEnd_8 : decode prog_14_method_38_code 8 = .ok (.getfield 140, 3) := by decide +kernel
theorem dc_M_markupEnd_11 : decode prog_14_method_38_code 11 = .ok (.iload_n 1, 1) := by decide +kernel
theorem dc_M_markupEnd_12 : decode prog_14_method_38_code 12 = .ok (.iconst 1, 1) := by decide +kernel
theorem dc_M_markupEnd_13 : decode prog_14_method_38_code 13 = .ok (.iadd, 1) := by decide +kernel
theorem dc_M_markupEnd_14 : decode prog_14_method_38_code 14 = .ok (.baload, 1) := by decide +kernel
theorem dc_M_markupEnd_15 : decode prog_14_method_38_code 15 = .ok (.goto 4, 3) := by decide +kernel
theorem dc_M_markupEnd_18 : decode prog_14_method_38_code 18 = .ok (.iconst (-1), 1) := by decide +kernel
theorem dc_M_markupEnd_19 : decode prog_14_method_38_code 19 = .ok (.istore 5, 2) := by decide +kernel
theorem dc_M_markupEnd_21 : decode prog_14_method_38_code 21 = .ok (.iload_n 1, 1) := by decide +kernel
theorem dc_M_markupEnd_22 : decode prog_14_method_38_code 22 = .ok (.iconst 2, 1) := by decide +kernel
theorem dc_M_markupEnd_23 : decode prog_14_method_38_code 23 = .ok (.iadd, 1) := by decide +kernel
theorem dc_M_markupEnd_24 : decode prog_14_method_38_code 24 = .ok (.iload_n 2, 1) := by decide +kernel
theorem dc_M_markupEnd_25 : decode prog_14_method_38_code 25 = .ok (.if_icmp .ge 14, 3) := by decide +kernel
theorem dc_M_markupEnd_28 : decode prog_14_method_38_code 28 = .ok (.aload_n 0, 1) := by decide +kernel
theorem dc_M_markupEnd_29 : decode prog_14_method_38_code 29 = .ok (.getfield 140, 3) := by decide +kernel
theorem dc_M_markupEnd_32 : decode prog_14_method_38_code 32 = .ok (.iload_n 1, 1) := by decide +kernel
theorem dc_M_markupEnd_33 : decode prog_14_method_38_code 33 = .ok (.iconst 2, 1) := by decide +kernel
theorem dc_M_markupEnd_34 : decode prog_14_method_38_code 34 = .ok (.iadd, 1) := by decide +kernel
theorem dc_M_markupEnd_35 : decode prog_14_method_38_code 35 = .ok (.baload, 1) := by decide +kernel
theorem dc_M_markupEnd_36 : decode prog_14_method_38_code 36 = .ok (.goto 4, 3) := by decide +kernel
theorem dc_M_markupEnd_39 : decode prog_14_method_38_code 39 = .ok (.iconst (-1), 1) := by decide +kernel
theorem dc_M_markupEnd_40 : decode prog_14_method_38_code 40 = .ok (.istore 6, 2) := by decide +kernel
theorem dc_M_markupEnd_42 : decode prog_14_method_38_code 42 = .ok (.iload 5, 2) := by decide +kernel
theorem dc_M_markupEnd_44 : decode prog_14_method_38_code 44 = .ok (.invokestatic 58, 3) := by decide +kernel
theorem dc_M_markupEnd_47 : decode prog_14_method_38_code 47 = .ok (.istore 7, 2) := by decide +kernel
theorem dc_M_markupEnd_49 : decode prog_14_method_38_code 49 = .ok (.iload 5, 2) := by decide +kernel
theorem dc_M_markupEnd_51 : decode prog_14_method_38_code 51 = .ok (.bipush 47, 2) := by decide +kernel
theorem dc_M_markupEnd_53 : decode prog_14_method_38_code 53 = .ok (.if_icmp .ne 15, 3) := by decide +kernel
theorem dc_M_markupEnd_56 : decode prog_14_method_38_code 56 = .ok (.iload 6, 2) := by decide +kernel
theorem dc_M_markupEnd_58 : decode prog_14_method_38_code 58 = .ok (.invokestatic 58, 3) := by decide +kernel
theorem dc_M_markupEnd_61 : decode prog_14_method_38_code 61 = .ok (.ifCond .eq 7, 3) := by decide +kernel
theorem dc_M_markupEnd_64 : decode prog_14_method_38_code 64 = .ok (.iconst 1, 1) := by decide +kernel
theorem dc_M_markupEnd_65 : decode prog_14_method_38_code 65 = .ok (.goto 4, 3) := by decide +kernel
theorem dc_M_markupEnd_68 : decode prog_14_method_38_code 68 = .ok (.iconst 0, 1) := by decide +kernel
theorem dc_M_markupEnd_69 : decode prog_14_method_38_code 69 = .ok (.istore 8, 2) := by decide +kernel
theorem dc_M_markupEnd_71 : decode prog_14_method_38_code 71 = .ok (.iload 7, 2) := by decide +kernel
theorem dc_M_markupEnd_73 : decode prog_14_method_38_code 73 = .ok (.ifCond .ne 31, 3) := by decide +kernel
theorem dc_M_markupEnd_76 : decode prog_14_method_38_code 76 = .ok (.iload 8, 2) := by decide +kernel
theorem dc_M_markupEnd_78 : decode prog_14_method_38_code 78 = .ok (.ifCond .ne 26, 3) := by decide +kernel
theorem dc_M_markupEnd_81 : decode prog_14_method_38_code 81 = .ok (.iload 5, 2) := by decide +kernel
theorem dc_M_markupEnd_83 : decode prog_14_method_38_code 83 = .ok (.bipush 33, 2) := by decide +kernel
theorem dc_M_markupEnd_85 : decode prog_14_method_38_code 85 = .ok (.if_icmp .eq 19, 3) := by decide +kernel
theorem dc_M_markupEnd_88 : decode prog_14_method_38_code 88 = .ok (.iload 5, 2) := by decide +kernel
theorem dc_M_markupEnd_90 : decode prog_14_method_38_code 90 = .ok (.bipush 63, 2) := by decide +kernel
theorem dc_M_markupEnd_92 : decode prog_14_method_38_code 92 = .ok (.if_icmp .eq 12, 3) := by decide +kernel
theorem dc_M_markupEnd_95 : decode prog_14_method_38_code 95 = .ok (.iload 5, 2) := by decide +kernel
theorem dc_M_markupEnd_97 : decode prog_14_method_38_code 97 = .ok (.bipush 47, 2) := by decide +kernel
theorem dc_M_markupEnd_99 : decode prog_14_method_38_code 99 = .ok (.if_icmp .eq 5, 3) := by decide +kernel
theorem dc_M_markupEnd_102 : decode prog_14_method_38_code 102 = .ok (.iconst (-1), 1) := by decide +kernel
theorem dc_M_markupEnd_103 : decode prog_14_method_38_code 103 = .ok (.ireturn, 1) := by decide +kernel
theorem dc_M_markupEnd_104 : decode prog_14_method_38_code 104 = .ok (.aload_n 0, 1) := by decide +kernel
theorem dc_M_markupEnd_105 : decode prog_14_method_38_code 105 = .ok (.iload 4, 2) := by decide +kernel
theorem dc_M_markupEnd_107 : decode prog_14_method_38_code 107 = .ok (.iload_n 1, 1) := by decide +kernel
theorem dc_M_markupEnd_108 : decode prog_14_method_38_code 108 = .ok (.invokevirtual 261, 3) := by decide +kernel
theorem dc_M_markupEnd_111 : decode prog_14_method_38_code 111 = .ok (.iload 7, 2) := by decide +kernel
theorem dc_M_markupEnd_113 : decode prog_14_method_38_code 113 = .ok (.ifCond .ne 8, 3) := by decide +kernel
theorem dc_M_markupEnd_116 : decode prog_14_method_38_code 116 = .ok (.iload 8, 2) := by decide +kernel
theorem dc_M_markupEnd_118 : decode prog_14_method_38_code 118 = .ok (.ifCond .eq 26, 3) := by decide +kernel
theorem dc_M_markupEnd_121 : decode prog_14_method_38_code 121 = .ok (.aload_n 0, 1) := by decide +kernel
theorem dc_M_markupEnd_122 : decode prog_14_method_38_code 122 = .ok (.iload 7, 2) := by decide +kernel
theorem dc_M_markupEnd_124 : decode prog_14_method_38_code 124 = .ok (.ifCond .eq 9, 3) := by decide +kernel
theorem dc_M_markupEnd_127 : decode prog_14_method_38_code 127 = .ok (.iload_n 1, 1) := by decide +kernel
theorem dc_M_markupEnd_128 : decode prog_14_method_38_code 128 = .ok (.iconst 1, 1) := by decide +kernel
theorem dc_M_markupEnd_129 : decode prog_14_method_38_code 129 = .ok (.iadd, 1) := by decide +kernel
theorem dc_M_markupEnd_130 : decode prog_14_method_38_code 130 = .ok (.goto 6, 3) := by decide +kernel
theorem dc_M_markupEnd_133 : decode prog_14_method_38_code 133 = .ok (.iload_n 1, 1) := by decide +kernel
theorem dc_M_markupEnd_134 : decode prog_14_method_38_code 134 = .ok (.iconst 2, 1) := by decide +kernel
theorem dc_M_markupEnd_135 : decode prog_14_method_38_code 135 = .ok (.iadd, 1) := by decide +kernel
theorem dc_M_markupEnd_136 : decode prog_14_method_38_code 136 = .ok (.iload_n 2, 1) := by decide +kernel
theorem dc_M_markupEnd_137 : decode prog_14_method_38_code 137 = .ok (.iload 7, 2) := by decide +kernel
theorem dc_M_markupEnd_139 : decode prog_14_method_38_code 139 = .ok (.iload_n 3, 1) := by decide +kernel
theorem dc_M_markupEnd_140 : decode prog_14_method_38_code 140 = .ok (.invokevirtual 265, 3) := by decide +kernel
theorem mo_M_tagEnd : am_mo mt_M_tagEnd 4 := ⟨⟨by decide +kernel, by decide +kernel⟩, by decide +kernel, ⟨by decide +kernel, by decide +kernel⟩, (am_t9 113 rfl rfl), (am_t1 11 rfl rfl), by decide +kernel⟩
theorem im_M_tagEnd : Cond.instanceMethod mt_M_tagEnd.1 ∈ am_gw := (am_t9 112 rfl rfl)
theorem se_M_tagEnd : Cond.selects mt_M_tagEnd.1.cls mt_M_tagEnd.1 mt_M_tagEnd.1 ∈ am_gw := am_in (List.mem_append_left _ (by decide +kernel)) rfl
theorem ln_M_265 : am_ln "WebFinderModel" 265 mt_M_tagEnd.1 := Or.inl (am_t9 110 rfl rfl)
theorem dc_M_markupEnd_143 : decode prog_14_method_38_code 143 = .ok (.ireturn, 1) := by decide +kernel
theorem dc_M_markupEnd_144 : decode prog_14_method_38_code 144 = .ok (.iload 5, 2) := by decide +kernel
theorem dc_M_markupEnd_146 : decode prog_14_method_38_code 146 = .ok (.bipush 33, 2) := by decide +kernel
theorem dc_M_markupEnd_148 : decode prog_14_method_38_code 148 = .ok (.if_icmp .ne 42, 3) := by decide +kernel
theorem dc_M_markupEnd_151 : decode prog_14_method_38_code 151 = .ok (.iload 6, 2) := by decide +kernel
theorem dc_M_markupEnd_153 : decode prog_14_method_38_code 153 = .ok (.bipush 45, 2) := by decide +kernel
theorem dc_M_markupEnd_155 : decode prog_14_method_38_code 155 = .ok (.if_icmp .ne 35, 3) := by decide +kernel
theorem dc_M_markupEnd_158 : decode prog_14_method_38_code 158 = .ok (.iload_n 1, 1) := by decide +kernel
theorem dc_M_markupEnd_159 : decode prog_14_method_38_code 159 = .ok (.iconst 3, 1) := by decide +kernel
theorem dc_M_markupEnd_160 : decode prog_14_method_38_code 160 = .ok (.iadd, 1) := by decide +kernel
theorem dc_M_markupEnd_161 : decode prog_14_method_38_code 161 = .ok (.iload_n 2, 1) := by decide +kernel
theorem dc_M_markupEnd_162 : decode prog_14_method_38_code 162 = .ok (.if_icmp .ge 28, 3) := by decide +kernel
theorem dc_M_markupEnd_165 : decode prog_14_method_38_code 165 = .ok (.aload_n 0, 1) := by decide +kernel
theorem dc_M_markupEnd_166 : decode prog_14_method_38_code 166 = .ok (.getfield 140, 3) := by decide +kernel
theorem dc_M_markupEnd_169 : decode prog_14_method_38_code 169 = .ok (.iload_n 1, 1) := by decide +kernel
theorem dc_M_markupEnd_170 : decode prog_14_method_38_code 170 = .ok (.iconst 3, 1) := by decide +kernel
theorem dc_M_markupEnd_171 : decode prog_14_method_38_code 171 = .ok (.iadd, 1) := by decide +kernel
theorem dc_M_markupEnd_172 : decode prog_14_method_38_code 172 = .ok (.baload, 1) := by decide +kernel
theorem dc_M_markupEnd_173 : decode prog_14_method_38_code 173 = .ok (.bipush 45, 2) := by decide +kernel
theorem dc_M_markupEnd_175 : decode prog_14_method_38_code 175 = .ok (.if_icmp .ne 15, 3) := by decide +kernel
theorem dc_M_markupEnd_178 : decode prog_14_method_38_code 178 = .ok (.aload_n 0, 1) := by decide +kernel
theorem dc_M_markupEnd_179 : decode prog_14_method_38_code 179 = .ok (.getfield 140, 3) := by decide +kernel
theorem dc_M_markupEnd_182 : decode prog_14_method_38_code 182 = .ok (.iload_n 1, 1) := by decide +kernel
theorem dc_M_markupEnd_183 : decode prog_14_method_38_code 183 = .ok (.iconst 4, 1) := by decide +kernel
theorem dc_M_markupEnd_184 : decode prog_14_method_38_code 184 = .ok (.iadd, 1) := by decide +kernel
theorem dc_M_markupEnd_185 : decode prog_14_method_38_code 185 = .ok (.iload_n 2, 1) := by decide +kernel
theorem dc_M_markupEnd_186 : decode prog_14_method_38_code 186 = .ok (.invokestatic 269, 3) := by decide +kernel
theorem mo_M_remarkEnd : am_mo mt_M_remarkEnd 3 := ⟨⟨by decide +kernel, by decide +kernel⟩, by decide +kernel, ⟨by decide +kernel, by decide +kernel⟩, (am_t9 129 rfl rfl), (am_t1 11 rfl rfl), by decide +kernel⟩
theorem st_M_remarkEnd : Cond.static mt_M_remarkEnd.1 ∈ am_gw := (am_t9 128 rfl rfl)
theorem ln_M_269 : am_ln "WebFinderModel" 269 mt_M_remarkEnd.1 := Or.inl (am_t9 127 rfl rfl)
theorem dc_M_markupEnd_189 : decode prog_14_method_38_code 189 = .ok (.ireturn, 1) := by decide +kernel
theorem dc_M_markupEnd_190 : decode prog_14_method_38_code 190 = .ok (.aload_n 0, 1) := by decide +kernel
theorem dc_M_markupEnd_191 : decode prog_14_method_38_code 191 = .ok (.getfield 140, 3) := by decide +kernel
theorem dc_M_markupEnd_194 : decode prog_14_method_38_code 194 = .ok (.iload_n 1, 1) := by decide +kernel
theorem dc_M_markupEnd_195 : decode prog_14_method_38_code 195 = .ok (.iconst 1, 1) := by decide +kernel
theorem dc_M_markupEnd_196 : decode prog_14_method_38_code 196 = .ok (.iadd, 1) := by decide +kernel
theorem dc_M_markupEnd_197 : decode prog_14_method_38_code 197 = .ok (.iload_n 2, 1) := by decide +kernel
theorem dc_M_markupEnd_198 : decode prog_14_method_38_code 198 = .ok (.bipush 62, 2) := by decide +kernel
theorem dc_M_markupEnd_200 : decode prog_14_method_38_code 200 = .ok (.invokestatic 48, 3) := by decide +kernel
theorem dc_M_markupEnd_203 : decode prog_14_method_38_code 203 = .ok (.istore 9, 2) := by decide +kernel
theorem dc_M_markupEnd_205 : decode prog_14_method_38_code 205 = .ok (.iload 9, 2) := by decide +kernel
theorem dc_M_markupEnd_207 : decode prog_14_method_38_code 207 = .ok (.iload_n 2, 1) := by decide +kernel
theorem dc_M_markupEnd_208 : decode prog_14_method_38_code 208 = .ok (.if_icmp .ge 10, 3) := by decide +kernel
theorem dc_M_markupEnd_211 : decode prog_14_method_38_code 211 = .ok (.iload 9, 2) := by decide +kernel
theorem dc_M_markupEnd_213 : decode prog_14_method_38_code 213 = .ok (.iconst 1, 1) := by decide +kernel
theorem dc_M_markupEnd_214 : decode prog_14_method_38_code 214 = .ok (.iadd, 1) := by decide +kernel
theorem dc_M_markupEnd_215 : decode prog_14_method_38_code 215 = .ok (.goto 4, 3) := by decide +kernel
theorem dc_M_markupEnd_218 : decode prog_14_method_38_code 218 = .ok (.iload_n 2, 1) := by decide +kernel
theorem dc_M_markupEnd_219 : decode prog_14_method_38_code 219 = .ok (.ireturn, 1) := by decide +kernel
theorem dc_M_flush_0 : decode prog_14_method_35_code 0 = .ok (.aload_n 0, 1) := by decide +kernel
theorem dc_M_flush_1 : decode prog_14_method_35_code 1 = .ok (.aload_n 0, 1) := by decide +kernel
theorem dc_M_flush_2 : decode prog_14_method_35_code 2 = .ok (.aload_n 0, 1) := by decide +kernel
theorem dc_M_flush_3 : decode prog_14_method_35_code 3 = .ok (.getfield 140, 3) := by decide +kernel
theorem dc_M_flush_6 : decode prog_14_method_35_code 6 = .ok (.iload_n 1, 1) := by decide +kernel
theorem dc_M_flush_7 : decode prog_14_method_35_code 7 = .ok (.iload_n 2, 1) := by decide +kernel
theorem dc_M_flush_8 : decode prog_14_method_35_code 8 = .ok (.aload_n 0, 1) := by decide +kernel
theorem dc_M_flush_9 : decode prog_14_method_35_code 9 = .ok (.getfield 235, 3) := by decide +kernel
theorem fl_M_235 : am_fl "WebFinderModel" 235 12 35 := ⟨"WebFinderModel", tt_M, 90, rfl, by decide, Or.inl (am_t7 146 rfl rfl)⟩
theorem dc_M_flush_12 : decode prog_14_method_35_code 12 = .ok (.iconst 0, 1) := by decide +kernel
theorem dc_M_flush_13 : decode prog_14_method_35_code 13 = .ok (.invokevirtual 238, 3) := by decide +kernel
theorem mo_M_decode : am_mo mt_M_decode 5 := ⟨⟨by decide +kernel, by decide +kernel⟩, by decide +kernel, ⟨by decide +kernel, by decide +kernel⟩, (am_t9 99 rfl rfl), (am_t1 11 rfl rfl), by decide +kernel⟩
theorem im_M_decode : Cond.instanceMethod mt_M_decode.1 ∈ am_gw := (am_t9 98 rfl rfl)
theorem se_M_decode : Cond.selects mt_M_decode.1.cls mt_M_decode.1 mt_M_decode.1 ∈ am_gw := am_in (List.mem_append_left _ (by decide +kernel)) rfl
theorem ln_M_238 : am_ln "WebFinderModel" 238 mt_M_decode.1 := Or.inl (am_t9 96 rfl rfl)
theorem dc_M_flush_16 : decode prog_14_method_35_code 16 = .ok (.putfield 241, 3) := by decide +kernel
theorem fp_M_flush_241 : am_fp mt_M_flush.1 241 12 36 (.int) := ⟨"WebFinderModel", tt_M, 90, rfl, by decide, ct_M 36 (by decide), Or.inl ⟨(am_t7 147 rfl rfl), Or.inl rfl⟩⟩
theorem dc_M_flush_19 : decode prog_14_method_35_code 19 = .ok (.aload_n 0, 1) := by decide +kernel
theorem dc_M_flush_20 : decode prog_14_method_35_code 20 = .ok (.aload_n 0, 1) := by decide +kernel
theorem dc_M_flush_21 : decode prog_14_method_35_code 21 = .ok (.getfield 235, 3) := by decide +kernel
theorem dc_M_flush_24 : decode prog_14_method_35_code 24 = .ok (.iconst 0, 1) := by decide +kernel
theorem dc_M_flush_25 : decode prog_14_method_35_code 25 = .ok (.aload_n 0, 1) := by decide +kernel
theorem dc_M_flush_26 : decode prog_14_method_35_code 26 = .ok (.getfield 241, 3) := by decide +kernel
theorem fl_M_241 : am_fl "WebFinderModel" 241 12 36 := ⟨"WebFinderModel", tt_M, 90, rfl, by decide, Or.inl (am_t7 147 rfl rfl)⟩
theorem dc_M_flush_29 : decode prog_14_method_35_code 29 = .ok (.invokevirtual 244, 3) := by decide +kernel
theorem mo_M_split : am_mo mt_M_split 3 := ⟨⟨by decide +kernel, by decide +kernel⟩, by decide +kernel, ⟨by decide +kernel, by decide +kernel⟩, (am_t9 109 rfl rfl), (am_t1 11 rfl rfl), by decide +kernel⟩
theorem im_M_split : Cond.instanceMethod mt_M_split.1 ∈ am_gw := (am_t9 108 rfl rfl)
theorem se_M_split : Cond.selects mt_M_split.1.cls mt_M_split.1 mt_M_split.1 ∈ am_gw := am_in (List.mem_append_left _ (by decide +kernel)) rfl
theorem ln_M_244 : am_ln "WebFinderModel" 244 mt_M_split.1 := Or.inl (am_t9 106 rfl rfl)
theorem dc_M_flush_32 : decode prog_14_method_35_code 32 = .ok (.return_, 1) := by decide +kernel
theorem dc_M_decode_0 : decode prog_14_method_33_code 0 = .ok (.iload 5, 2) := by decide +kernel
theorem dc_M_decode_2 : decode prog_14_method_33_code 2 = .ok (.istore 6, 2) := by decide +kernel
theorem dc_M_decode_4 : decode prog_14_method_33_code 4 = .ok (.iload_n 2, 1) := by decide +kernel
theorem dc_M_decode_5 : decode prog_14_method_33_code 5 = .ok (.istore 7, 2) := by decide +kernel
theorem dc_M_decode_7 : decode prog_14_method_33_code 7 = .ok (.iload 7, 2) := by decide +kernel
theorem dc_M_decode_9 : decode prog_14_method_33_code 9 = .ok (.iload_n 3, 1) := by decide +kernel
theorem dc_M_decode_10 : decode prog_14_method_33_code 10 = .ok (.if_icmp .ge 70, 3) := by decide +kernel
theorem dc_M_decode_13 : decode prog_14_method_33_code 13 = .ok (.aload_n 1, 1) := by decide +kernel
theorem dc_M_decode_14 : decode prog_14_method_33_code 14 = .ok (.iload 7, 2) := by decide +kernel
theorem dc_M_decode_16 : decode prog_14_method_33_code 16 = .ok (.baload, 1) := by decide +kernel
theorem dc_M_decode_17 : decode prog_14_method_33_code 17 = .ok (.bipush 38, 2) := by decide +kernel
theorem dc_M_decode_19 : decode prog_14_method_33_code 19 = .ok (.if_icmp .ne 14, 3) := by decide +kernel
theorem dc_M_decode_22 : decode prog_14_method_33_code 22 = .ok (.aload_n 0, 1) := by decide +kernel
theorem dc_M_decode_23 : decode prog_14_method_33_code 23 = .ok (.aload_n 1, 1) := by decide +kernel
theorem dc_M_decode_24 : decode prog_14_method_33_code 24 = .ok (.iload 7, 2) := by decide +kernel
theorem dc_M_decode_26 : decode prog_14_method_33_code 26 = .ok (.iload_n 3, 1) := by decide +kernel
theorem dc_M_decode_27 : decode prog_14_method_33_code 27 = .ok (.invokevirtual 220, 3) := by decide +kernel
theorem mo_M_readByte : am_mo mt_M_readByte 3 := ⟨⟨by decide +kernel, by decide +kernel⟩, by decide +kernel, ⟨by decide +kernel, by decide +kernel⟩, (am_t9 103 rfl rfl), (am_t1 11 rfl rfl), by decide +kernel⟩
theorem im_M_readByte : Cond.instanceMethod mt_M_readByte.1 ∈ am_gw := (am_t9 102 rfl rfl)
theorem se_M_readByte : Cond.selects mt_M_readByte.1.cls mt_M_readByte.1 mt_M_readByte.1 ∈ am_gw := am_in (List.mem_append_left _ (by decide +kernel)) rfl
theorem ln_M_220 : am_ln "WebFinderModel" 220 mt_M_readByte.1 := Or.inl (am_t9 100 rfl rfl)
theorem dc_M_decode_30 : decode prog_14_method_33_code 30 = .ok (.goto 4, 3) := by decide +kernel
theorem dc_M_decode_33 : decode prog_14_method_33_code 33 = .ok (.iconst (-1), 1) := by decide +kernel
theorem dc_M_decode_34 : decode prog_14_method_33_code 34 = .ok (.istore 8, 2) := by decide +kernel
theorem dc_M_decode_36 : decode prog_14_method_33_code 36 = .ok (.aload 4, 2) := by decide +kernel
theorem dc_M_decode_38 : decode prog_14_method_33_code 38 = .ok (.iload 6, 2) := by decide +kernel
theorem dc_M_decode_40 : decode prog_14_method_33_code 40 = .ok (.iload 8, 2) := by decide +kernel
theorem dc_M_decode_42 : decode prog_14_method_33_code 42 = .ok (.ifCond .ge 10, 3) := by decide +kernel
theorem dc_M_decode_45 : decode prog_14_method_33_code 45 = .ok (.aload_n 1, 1) := by decide +kernel
theorem dc_M_decode_46 : decode prog_14_method_33_code 46 = .ok (.iload 7, 2) := by decide +kernel
theorem dc_M_decode_48 : decode prog_14_method_33_code 48 = .ok (.baload, 1) := by decide +kernel
theorem dc_M_decode_49 : decode prog_14_method_33_code 49 = .ok (.goto 8, 3) := by decide +kernel
theorem dc_M_decode_52 : decode prog_14_method_33_code 52 = .ok (.aload_n 0, 1) := by decide +kernel
theorem dc_M_decode_53 : decode prog_14_method_33_code 53 = .ok (.getfield 217, 3) := by decide +kernel
theorem fl_M_217 : am_fl "WebFinderModel" 217 12 47 := ⟨"WebFinderModel", tt_M, 90, rfl, by decide, Or.inl (am_t7 158 rfl rfl)⟩
theorem dc_M_decode_56 : decode prog_14_method_33_code 56 = .ok (.i2b, 1) := by decide +kernel
theorem dc_M_decode_57 : decode prog_14_method_33_code 57 = .ok (.bastore, 1) := by decide +kernel
theorem dc_M_decode_58 : decode prog_14_method_33_code 58 = .ok (.iinc 6 1, 3) := by decide +kernel
theorem dc_M_decode_61 : decode prog_14_method_33_code 61 = .ok (.iload 8, 2) := by decide +kernel
theorem dc_M_decode_63 : decode prog_14_method_33_code 63 = .ok (.ifCond .ge 10, 3) := by decide +kernel
theorem dc_M_decode_66 : decode prog_14_method_33_code 66 = .ok (.iload 7, 2) := by decide +kernel
theorem dc_M_decode_68 : decode prog_14_method_33_code 68 = .ok (.iconst 1, 1) := by decide +kernel
theorem dc_M_decode_69 : decode prog_14_method_33_code 69 = .ok (.iadd, 1) := by decide +kernel
theorem dc_M_decode_70 : decode prog_14_method_33_code 70 = .ok (.goto 5, 3) := by decide +kernel
theorem dc_M_decode_73 : decode prog_14_method_33_code 73 = .ok (.iload 8, 2) := by decide +kernel
theorem dc_M_decode_75 : decode prog_14_method_33_code 75 = .ok (.istore 7, 2) := by decide +kernel
theorem dc_M_decode_77 : decode prog_14_method_33_code 77 = .ok (.goto (-70), 3) := by decide +kernel
theorem dc_M_decode_80 : decode prog_14_method_33_code 80 = .ok (.iload 6, 2) := by decide +kernel
theorem dc_M_decode_82 : decode prog_14_method_33_code 82 = .ok (.ireturn, 1) := by decide +kernel
theorem dc_M_readByte_0 : decode prog_14_method_32_code 0 = .ok (.ldc 213, 2) := by decide +kernel
theorem dc_M_readByte_2 : decode prog_14_method_32_code 2 = .ok (.astore 4, 2) := by decide +kernel
theorem dc_M_readByte_4 : decode prog_14_method_32_code 4 = .ok (.ldc 215, 2) := by decide +kernel
theorem dc_M_readByte_6 : decode prog_14_method_32_code 6 = .ok (.astore 5, 2) := by decide +kernel
theorem dc_M_readByte_8 : decode prog_14_method_32_code 8 = .ok (.iconst 0, 1) := by decide +kernel
theorem dc_M_readByte_9 : decode prog_14_method_32_code 9 = .ok (.istore 6, 2) := by decide +kernel
theorem dc_M_readByte_11 : decode prog_14_method_32_code 11 = .ok (.iconst 0, 1) := by decide +kernel
theorem dc_M_readByte_12 : decode prog_14_method_32_code 12 = .ok (.istore 7, 2) := by decide +kernel
theorem dc_M_readByte_14 : decode prog_14_method_32_code 14 = .ok (.iload 7, 2) := by decide +kernel
theorem dc_M_readByte_16 : decode prog_14_method_32_code 16 = .ok (.iconst 5, 1) := by decide +kernel
theorem dc_M_readByte_17 : decode prog_14_method_32_code 17 = .ok (.if_icmp .ge 133, 3) := by decide +kernel
theorem dc_M_readByte_20 : decode prog_14_method_32_code 20 = .ok (.iload 6, 2) := by decide +kernel
theorem dc_M_readByte_22 : decode prog_14_method_32_code 22 = .ok (.istore 8, 2) := by decide +kernel
theorem dc_M_readByte_24 : decode prog_14_method_32_code 24 = .ok (.aload 4, 2) := by decide +kernel
theorem dc_M_readByte_26 : decode prog_14_method_32_code 26 = .ok (.iload 8, 2) := by decide +kernel
theorem dc_M_readByte_28 : decode prog_14_method_32_code 28 = .ok (.invokevirtual 21, 3) := by decide +kernel
theorem dc_M_readByte_31 : decode prog_14_method_32_code 31 = .ok (.bipush 59, 2) := by decide +kernel
theorem dc_M_readByte_33 : decode prog_14_method_32_code 33 = .ok (.if_icmp .eq 9, 3) := by decide +kernel
theorem dc_M_readByte_36 : decode prog_14_method_32_code 36 = .ok (.iinc 8 1, 3) := by decide +kernel
theorem dc_M_readByte_39 : decode prog_14_method_32_code 39 = .ok (.goto (-15), 3) := by decide +kernel
theorem dc_M_readByte_42 : decode prog_14_method_32_code 42 = .ok (.iload_n 2, 1) := by decide +kernel
theorem dc_M_readByte_43 : decode prog_14_method_32_code 43 = .ok (.iconst 2, 1) := by decide +kernel
theorem dc_M_readByte_44 : decode prog_14_method_32_code 44 = .ok (.iadd, 1) := by decide +kernel
theorem dc_M_readByte_45 : decode prog_14_method_32_code 45 = .ok (.iload 8, 2) := by decide +kernel
theorem dc_M_readByte_47 : decode prog_14_method_32_code 47 = .ok (.iadd, 1) := by decide +kernel
theorem dc_M_readByte_48 : decode prog_14_method_32_code 48 = .ok (.iload 6, 2) := by decide +kernel
theorem dc_M_readByte_50 : decode prog_14_method_32_code 50 = .ok (.isub, 1) := by decide +kernel
theorem dc_M_readByte_51 : decode prog_14_method_32_code 51 = .ok (.iload_n 3, 1) := by decide +kernel
theorem dc_M_readByte_52 : decode prog_14_method_32_code 52 = .ok (.if_icmp .gt 7, 3) := by decide +kernel
theorem dc_M_readByte_55 : decode prog_14_method_32_code 55 = .ok (.iconst 1, 1) := by decide +kernel
theorem dc_M_readByte_56 : decode prog_14_method_32_code 56 = .ok (.goto 4, 3) := by decide +kernel
theorem dc_M_readByte_59 : decode prog_14_method_32_code 59 = .ok (.iconst 0, 1) := by decide +kernel
theorem dc_M_readByte_60 : decode prog_14_method_32_code 60 = .ok (.istore 9, 2) := by decide +kernel
theorem dc_M_readByte_62 : decode prog_14_method_32_code 62 = .ok (.iload 6, 2) := by decide +kernel
theorem dc_M_readByte_64 : decode prog_14_method_32_code 64 = .ok (.istore 10, 2) := by decide +kernel
theorem dc_M_readByte_66 : decode prog_14_method_32_code 66 = .ok (.iload 10, 2) := by decide +kernel
theorem dc_M_readByte_68 : decode prog_14_method_32_code 68 = .ok (.iload 8, 2) := by decide +kernel
theorem dc_M_readByte_70 : decode prog_14_method_32_code 70 = .ok (.if_icmp .gt 42, 3) := by decide +kernel
theorem dc_M_readByte_73 : decode prog_14_method_32_code 73 = .ok (.iload 9, 2) := by decide +kernel
theorem dc_M_readByte_75 : decode prog_14_method_32_code 75 = .ok (.ifCond .eq 37, 3) := by decide +kernel
theorem dc_M_readByte_78 : decode prog_14_method_32_code 78 = .ok (.aload_n 1, 1) := by decide +kernel
theorem dc_M_readByte_79 : decode prog_14_method_32_code 79 = .ok (.iload_n 2, 1) := by decide +kernel
theorem dc_M_readByte_80 : decode prog_14_method_32_code 80 = .ok (.iconst 1, 1) := by decide +kernel
theorem dc_M_readByte_81 : decode prog_14_method_32_code 81 = .ok (.iadd, 1) := by decide +kernel
theorem dc_M_readByte_82 : decode prog_14_method_32_code 82 = .ok (.iload 10, 2) := by decide +kernel
theorem dc_M_readByte_84 : decode prog_14_method_32_code 84 = .ok (.iadd, 1) := by decide +kernel
theorem dc_M_readByte_85 : decode prog_14_method_32_code 85 = .ok (.iload 6, 2) := by decide +kernel
theorem dc_M_readByte_87 : decode prog_14_method_32_code 87 = .ok (.isub, 1) := by decide +kernel
theorem dc_M_readByte_88 : decode prog_14_method_32_code 88 = .ok (.baload, 1) := by decide +kernel
theorem dc_M_readByte_89 : decode prog_14_method_32_code 89 = .ok (.aload 4, 2) := by decide +kernel
theorem dc_M_readByte_91 : decode prog_14_method_32_code 91 = .ok (.iload 10, 2) := by decide +kernel
theorem dc_M_readByte_93 : decode prog_14_method_32_code 93 = .ok (.invokevirtual 21, 3) := by decide +kernel
theorem dc_M_readByte_96 : decode prog_14_method_32_code 96 = .ok (.if_icmp .ne 7, 3) := by decide +kernel
theorem dc_M_readByte_99 : decode prog_14_method_32_code 99 = .ok (.iconst 1, 1) := by decide +kernel
theorem dc_M_readByte_100 : decode prog_14_method_32_code 100 = .ok (.goto 4, 3) := by decide +kernel
theorem dc_M_readByte_103 : decode prog_14_method_32_code 103 = .ok (.iconst 0, 1) := by decide +kernel
theorem dc_M_readByte_104 : decode prog_14_method_32_code 104 = .ok (.istore 9, 2) := by decide +kernel
theorem dc_M_readByte_106 : decode prog_14_method_32_code 106 = .ok (.iinc 10 1, 3) := by decide +kernel
theorem dc_M_readByte_109 : decode prog_14_method_32_code 109 = .ok (.goto (-43), 3) := by decide +kernel
theorem dc_M_readByte_112 : decode prog_14_method_32_code 112 = .ok (.iload 9, 2) := by decide +kernel
theorem dc_M_readByte_114 : decode prog_14_method_32_code 114 = .ok (.ifCond .eq 24, 3) := by decide +kernel
theorem dc_M_readByte_117 : decode prog_14_method_32_code 117 = .ok (.aload_n 0, 1) := by decide +kernel
theorem dc_M_readByte_118 : decode prog_14_method_32_code 118 = .ok (.aload 5, 2) := by decide +kernel
theorem dc_M_readByte_120 : decode prog_14_method_32_code 120 = .ok (.iload 7, 2) := by decide +kernel
theorem dc_M_readByte_122 : decode prog_14_method_32_code 122 = .ok (.invokevirtual 21, 3) := by decide +kernel
theorem dc_M_readByte_125 : decode prog_14_method_32_code 125 = .ok (.putfield 217, 3) := by decide +kernel
theorem fp_M_readByte_217 : am_fp mt_M_readByte.1 217 12 47 (.int) := ⟨"WebFinderModel", tt_M, 90, rfl, by decide, ct_M 47 (by decide), Or.inl ⟨(am_t7 158 rfl rfl), Or.inl rfl⟩⟩
theorem dc_M_readByte_128 : decode prog_14_method_32_code 128 = .ok (.iload_n 2, 1) := by decide +kernel
theorem dc_M_readByte_129 : decode prog_14_method_32_code 129 = .ok (.iconst 2, 1) := by decide +kernel
theorem dc_M_readByte_130 : decode prog_14_method_32_code 130 = .ok (.iadd, 1) := by decide +kernel
theorem dc_M_readByte_131 : decode prog_14_method_32_code 131 = .ok (.iload 8, 2) := by decide +kernel
theorem dc_M_readByte_133 : decode prog_14_method_32_code 133 = .ok (.iadd, 1) := by decide +kernel
theorem dc_M_readByte_134 : decode prog_14_method_32_code 134 = .ok (.iload 6, 2) := by decide +kernel
theorem dc_M_readByte_136 : decode prog_14_method_32_code 136 = .ok (.isub, 1) := by decide +kernel
theorem dc_M_readByte_137 : decode prog_14_method_32_code 137 = .ok (.ireturn, 1) := by decide +kernel
theorem dc_M_readByte_138 : decode prog_14_method_32_code 138 = .ok (.iload 8, 2) := by decide +kernel
theorem dc_M_readByte_140 : decode prog_14_method_32_code 140 = .ok (.iconst 1, 1) := by decide +kernel
theorem dc_M_readByte_141 : decode prog_14_method_32_code 141 = .ok (.iadd, 1) := by decide +kernel
theorem dc_M_readByte_142 : decode prog_14_method_32_code 142 = .ok (.istore 6, 2) := by decide +kernel
theorem dc_M_readByte_144 : decode prog_14_method_32_code 144 = .ok (.iinc 7 1, 3) := by decide +kernel
theorem dc_M_readByte_147 : decode prog_14_method_32_code 147 = .ok (.goto (-133), 3) := by decide +kernel
theorem dc_M_readByte_150 : decode prog_14_method_32_code 150 = .ok (.iload_n 2, 1) := by decide +kernel
theorem dc_M_readByte_151 : decode prog_14_method_32_code 151 = .ok (.iconst 1, 1) := by decide +kernel
theorem dc_M_readByte_152 : decode prog_14_method_32_code 152 = .ok (.iadd, 1) := by decide +kernel
theorem dc_M_readByte_153 : decode prog_14_method_32_code 153 = .ok (.iload_n 3, 1) := by decide +kernel
theorem dc_M_readByte_154 : decode prog_14_method_32_code 154 = .ok (.if_icmp .ge 13, 3) := by decide +kernel
theorem dc_M_readByte_157 : decode prog_14_method_32_code 157 = .ok (.aload_n 1, 1) := by decide +kernel
theorem dc_M_readByte_158 : decode prog_14_method_32_code 158 = .ok (.iload_n 2, 1) := by decide +kernel
theorem dc_M_readByte_159 : decode prog_14_method_32_code 159 = .ok (.iconst 1, 1) := by decide +kernel
theorem dc_M_readByte_160 : decode prog_14_method_32_code 160 = .ok (.iadd, 1) := by decide +kernel
theorem dc_M_readByte_161 : decode prog_14_method_32_code 161 = .ok (.baload, 1) := by decide +kernel
theorem dc_M_readByte_162 : decode prog_14_method_32_code 162 = .ok (.bipush 35, 2) := by decide +kernel
theorem dc_M_readByte_164 : decode prog_14_method_32_code 164 = .ok (.if_icmp .eq 5, 3) := by decide +kernel
theorem dc_M_readByte_167 : decode prog_14_method_32_code 167 = .ok (.iconst (-1), 1) := by decide +kernel
theorem dc_M_readByte_168 : decode prog_14_method_32_code 168 = .ok (.ireturn, 1) := by decide +kernel
theorem dc_M_readByte_169 : decode prog_14_method_32_code 169 = .ok (.iload_n 2, 1) := by decide +kernel
theorem dc_M_readByte_170 : decode prog_14_method_32_code 170 = .ok (.iconst 2, 1) := by decide +kernel
theorem dc_M_readByte_171 : decode prog_14_method_32_code 171 = .ok (.iadd, 1) := by decide +kernel
theorem dc_M_readByte_172 : decode prog_14_method_32_code 172 = .ok (.iload_n 3, 1) := by decide +kernel
theorem dc_M_readByte_173 : decode prog_14_method_32_code 173 = .ok (.if_icmp .ge 20, 3) := by decide +kernel
theorem dc_M_readByte_176 : decode prog_14_method_32_code 176 = .ok (.aload_n 1, 1) := by decide +kernel
theorem dc_M_readByte_177 : decode prog_14_method_32_code 177 = .ok (.iload_n 2, 1) := by decide +kernel
theorem dc_M_readByte_178 : decode prog_14_method_32_code 178 = .ok (.iconst 2, 1) := by decide +kernel
theorem dc_M_readByte_179 : decode prog_14_method_32_code 179 = .ok (.iadd, 1) := by decide +kernel
theorem dc_M_readByte_180 : decode prog_14_method_32_code 180 = .ok (.baload, 1) := by decide +kernel
theorem dc_M_readByte_181 : decode prog_14_method_32_code 181 = .ok (.invokestatic 7, 3) := by decide +kernel
theorem dc_M_readByte_184 : decode prog_14_method_32_code 184 = .ok (.bipush 120, 2) := by decide +kernel
theorem dc_M_readByte_186 : decode prog_14_method_32_code 186 = .ok (.if_icmp .ne 7, 3) := by decide +kernel
theorem dc_M_readByte_189 : decode prog_14_method_32_code 189 = .ok (.iconst 1, 1) := by decide +kernel
theorem dc_M_readByte_190 : decode prog_14_method_32_code 190 = .ok (.goto 4, 3) := by decide +kernel
theorem dc_M_readByte_193 : decode prog_14_method_32_code 193 = .ok (.iconst 0, 1) := by decide +kernel
theorem dc_M_readByte_194 : decode prog_14_method_32_code 194 = .ok (.istore 7, 2) := by decide +kernel
theorem dc_M_readByte_196 : decode prog_14_method_32_code 196 = .ok (.iload 7, 2) := by decide +kernel
theorem dc_M_readByte_198 : decode prog_14_method_32_code 198 = .ok (.ifCond .eq 9, 3) := by decide +kernel
theorem dc_M_readByte_201 : decode prog_14_method_32_code 201 = .ok (.iload_n 2, 1) := by decide +kernel
theorem dc_M_readByte_202 : decode prog_14_method_32_code 202 = .ok (.iconst 3, 1) := by decide +kernel
theorem dc_M_readByte_203 : decode prog_14_method_32_code 203 = .ok (.iadd, 1) := by decide +kernel
theorem dc_M_readByte_204 : decode prog_14_method_32_code 204 = .ok (.goto 6, 3) := by decide +kernel
theorem dc_M_readByte_207 : decode prog_14_method_32_code 207 = .ok (.iload_n 2, 1) := by decide +kernel
theorem dc_M_readByte_208 : decode prog_14_method_32_code 208 = .ok (.iconst 2, 1) := by decide +kernel
theorem dc_M_readByte_209 : decode prog_14_method_32_code 209 = .ok (.iadd, 1) := by decide +kernel
theorem dc_M_readByte_210 : decode prog_14_method_32_code 210 = .ok (.istore 8, 2) := by decide +kernel
theorem dc_M_readByte_212 : decode prog_14_method_32_code 212 = .ok (.iconst 0, 1) := by decide +kernel
theorem dc_M_readByte_213 : decode prog_14_method_32_code 213 = .ok (.istore 9, 2) := by decide +kernel
theorem dc_M_readByte_215 : decode prog_14_method_32_code 215 = .ok (.iconst 0, 1) := by decide +kernel
theorem dc_M_readByte_216 : decode prog_14_method_32_code 216 = .ok (.istore 10, 2) := by decide +kernel
theorem dc_M_readByte_218 : decode prog_14_method_32_code 218 = .ok (.iload 8, 2) := by decide +kernel
theorem dc_M_readByte_220 : decode prog_14_method_32_code 220 = .ok (.iload_n 3, 1) := by decide +kernel
theorem dc_M_readByte_221 : decode prog_14_method_32_code 221 = .ok (.if_icmp .ge 83, 3) := by decide +kernel
theorem dc_M_readByte_224 : decode prog_14_method_32_code 224 = .ok (.iload 10, 2) := by decide +kernel
theorem dc_M_readByte_226 : decode prog_14_method_32_code 226 = .ok (.bipush 7, 2) := by decide +kernel
theorem dc_M_readByte_228 : decode prog_14_method_32_code 228 = .ok (.if_icmp .ge 76, 3) := by decide +kernel
theorem dc_M_readByte_231 : decode prog_14_method_32_code 231 = .ok (.iload 7, 2) := by decide +kernel
theorem dc_M_readByte_233 : decode prog_14_method_32_code 233 = .ok (.ifCond .eq 16, 3) := by decide +kernel
theorem dc_M_readByte_236 : decode prog_14_method_32_code 236 = .ok (.aload_n 1, 1) := by decide +kernel
theorem dc_M_readByte_237 : decode prog_14_method_32_code 237 = .ok (.iload 8, 2) := by decide +kernel
theorem dc_M_readByte_239 : decode prog_14_method_32_code 239 = .ok (.baload, 1) := by decide +kernel
theorem dc_M_readByte_240 : decode prog_14_method_32_code 240 = .ok (.invokestatic 55, 3) := by decide +kernel
theorem dc_M_readByte_243 : decode prog_14_method_32_code 243 = .ok (.ifCond .lt 61, 3) := by decide +kernel
theorem dc_M_readByte_246 : decode prog_14_method_32_code 246 = .ok (.goto 13, 3) := by decide +kernel
theorem dc_M_readByte_249 : decode prog_14_method_32_code 249 = .ok (.aload_n 1, 1) := by decide +kernel
theorem dc_M_readByte_250 : decode prog_14_method_32_code 250 = .ok (.iload 8, 2) := by decide +kernel
theorem dc_M_readByte_252 : decode prog_14_method_32_code 252 = .ok (.baload, 1) := by decide +kernel
theorem dc_M_readByte_253 : decode prog_14_method_32_code 253 = .ok (.invokestatic 11, 3) := by decide +kernel
theorem dc_M_readByte_256 : decode prog_14_method_32_code 256 = .ok (.ifCond .eq 48, 3) := by decide +kernel
theorem dc_M_readByte_259 : decode prog_14_method_32_code 259 = .ok (.iload 7, 2) := by decide +kernel
theorem dc_M_readByte_261 : decode prog_14_method_32_code 261 = .ok (.ifCond .eq 19, 3) := by decide +kernel
theorem dc_M_readByte_264 : decode prog_14_method_32_code 264 = .ok (.bipush 16, 2) := by decide +kernel
theorem dc_M_readByte_266 : decode prog_14_method_32_code 266 = .ok (.iload 9, 2) := by decide +kernel
theorem dc_M_readByte_268 : decode prog_14_method_32_code 268 = .ok (.imul, 1) := by decide +kernel
theorem dc_M_readByte_269 : decode prog_14_method_32_code 269 = .ok (.aload_n 1, 1) := by decide +kernel
theorem dc_M_readByte_270 : decode prog_14_method_32_code 270 = .ok (.iload 8, 2) := by decide +kernel
theorem dc_M_readByte_272 : decode prog_14_method_32_code 272 = .ok (.baload, 1) := by decide +kernel
theorem dc_M_readByte_273 : decode prog_14_method_32_code 273 = .ok (.invokestatic 55, 3) := by decide +kernel
theorem dc_M_readByte_276 : decode prog_14_method_32_code 276 = .ok (.iadd, 1) := by decide +kernel
theorem dc_M_readByte_277 : decode prog_14_method_32_code 277 = .ok (.goto 16, 3) := by decide +kernel
theorem dc_M_readByte_280 : decode prog_14_method_32_code 280 = .ok (.bipush 10, 2) := by decide +kernel
theorem dc_M_readByte_282 : decode prog_14_method_32_code 282 = .ok (.iload 9, 2) := by decide +kernel
theorem dc_M_readByte_284 : decode prog_14_method_32_code 284 = .ok (.imul, 1) := by decide +kernel
theorem dc_M_readByte_285 : decode prog_14_method_32_code 285 = .ok (.aload_n 1, 1) := by decide +kernel
theorem dc_M_readByte_286 : decode prog_14_method_32_code 286 = .ok (.iload 8, 2) := by decide +kernel
theorem dc_M_readByte_288 : decode prog_14_method_32_code 288 = .ok (.baload, 1) := by decide +kernel
theorem dc_M_readByte_289 : decode prog_14_method_32_code 289 = .ok (.iadd, 1) := by decide +kernel
theorem dc_M_readByte_290 : decode prog_14_method_32_code 290 = .ok (.bipush 48, 2) := by decide +kernel
theorem dc_M_readByte_292 : decode prog_14_method_32_code 292 = .ok (.isub, 1) := by decide +kernel
theorem dc_M_readByte_293 : decode prog_14_method_32_code 293 = .ok (.istore 9, 2) := by decide +kernel
theorem dc_M_readByte_295 : decode prog_14_method_32_code 295 = .ok (.iinc 10 1, 3) := by decide +kernel
theorem dc_M_readByte_298 : decode prog_14_method_32_code 298 = .ok (.iinc 8 1, 3) := by decide +kernel
theorem dc_M_readByte_301 : decode prog_14_method_32_code 301 = .ok (.goto (-83), 3) := by decide +kernel
theorem dc_M_readByte_304 : decode prog_14_method_32_code 304 = .ok (.iload 10, 2) := by decide +kernel
theorem dc_M_readByte_306 : decode prog_14_method_32_code 306 = .ok (.iconst 1, 1) := by decide +kernel
theorem dc_M_readByte_307 : decode prog_14_method_32_code 307 = .ok (.if_icmp .lt 25, 3) := by decide +kernel
theorem dc_M_readByte_310 : decode prog_14_method_32_code 310 = .ok (.iload 10, 2) := by decide +kernel
theorem dc_M_readByte_312 : decode prog_14_method_32_code 312 = .ok (.bipush 6, 2) := by decide +kernel
theorem dc_M_readByte_314 : decode prog_14_method_32_code 314 = .ok (.if_icmp .gt 18, 3) := by decide +kernel
theorem dc_M_readByte_317 : decode prog_14_method_32_code 317 = .ok (.iload 8, 2) := by decide +kernel
theorem dc_M_readByte_319 : decode prog_14_method_32_code 319 = .ok (.iload_n 3, 1) := by decide +kernel
theorem dc_M_readByte_320 : decode prog_14_method_32_code 320 = .ok (.if_icmp .ge 12, 3) := by decide +kernel
theorem dc_M_readByte_323 : decode prog_14_method_32_code 323 = .ok (.aload_n 1, 1) := by decide +kernel
theorem dc_M_readByte_324 : decode prog_14_method_32_code 324 = .ok (.iload 8, 2) := by decide +kernel
theorem dc_M_readByte_326 : decode prog_14_method_32_code 326 = .ok (.baload, 1) := by decide +kernel
theorem dc_M_readByte_327 : decode prog_14_method_32_code 327 = .ok (.bipush 59, 2) := by decide +kernel
theorem dc_M_readByte_329 : decode prog_14_method_32_code 329 = .ok (.if_icmp .eq 5, 3) := by decide +kernel
theorem dc_M_readByte_332 : decode prog_14_method_32_code 332 = .ok (.iconst (-1), 1) := by decide +kernel
theorem dc_M_readByte_333 : decode prog_14_method_32_code 333 = .ok (.ireturn, 1) := by decide +kernel
theorem dc_M_readByte_334 : decode prog_14_method_32_code 334 = .ok (.aload_n 0, 1) := by decide +kernel
theorem dc_M_readByte_335 : decode prog_14_method_32_code 335 = .ok (.iload 9, 2) := by decide +kernel
theorem dc_M_readByte_337 : decode prog_14_method_32_code 337 = .ok (.bipush 32, 2) := by decide +kernel
theorem dc_M_readByte_339 : decode prog_14_method_32_code 339 = .ok (.if_icmp .lt 15, 3) := by decide +kernel
theorem dc_M_readByte_342 : decode prog_14_method_32_code 342 = .ok (.iload 9, 2) := by decide +kernel
theorem dc_M_readByte_344 : decode prog_14_method_32_code 344 = .ok (.bipush 126, 2) := by decide +kernel
theorem dc_M_readByte_346 : decode prog_14_method_32_code 346 = .ok (.if_icmp .gt 8, 3) := by decide +kernel
theorem dc_M_readByte_349 : decode prog_14_method_32_code 349 = .ok (.iload 9, 2) := by decide +kernel
theorem dc_M_readByte_351 : decode prog_14_method_32_code 351 = .ok (.goto 5, 3) := by decide +kernel
theorem dc_M_readByte_354 : decode prog_14_method_32_code 354 = .ok (.bipush 32, 2) := by decide +kernel
theorem dc_M_readByte_356 : decode prog_14_method_32_code 356 = .ok (.putfield 217, 3) := by decide +kernel
theorem dc_M_readByte_359 : decode prog_14_method_32_code 359 = .ok (.iload 8, 2) := by decide +kernel
theorem dc_M_readByte_361 : decode prog_14_method_32_code 361 = .ok (.iconst 1, 1) := by decide +kernel
theorem dc_M_readByte_362 : decode prog_14_method_32_code 362 = .ok (.iadd, 1) := by decide +kernel
theorem dc_M_readByte_363 : decode prog_14_method_32_code 363 = .ok (.ireturn, 1) := by decide +kernel
