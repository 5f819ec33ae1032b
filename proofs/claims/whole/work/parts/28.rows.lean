theorem dc_M_known_0 : decode prog_14_method_89_code 0 = .ok (.aload_n 0, 1) := by decide +kernel
theorem dc_M_known_1 : decode prog_14_method_89_code 1 = .ok (.iconst 0, 1) := by decide +kernel
theorem dc_M_known_2 : decode prog_14_method_89_code 2 = .ok (.putfield 1, 3) := by decide +kernel
theorem fp_M_known_1 : am_fp mt_M_known.1 1 12 2 (.int) := ⟨"WebFinderModel", tt_M, 90, rfl, by decide, ct_M 2 (by decide), Or.inl ⟨(am_t7 113 rfl rfl), Or.inl rfl⟩⟩
theorem dc_M_known_5 : decode prog_14_method_89_code 5 = .ok (.iload_n 1, 1) := by decide +kernel
theorem dc_M_known_6 : decode prog_14_method_89_code 6 = .ok (.ifCond .lt 20, 3) := by decide +kernel
theorem dc_M_known_9 : decode prog_14_method_89_code 9 = .ok (.iload_n 1, 1) := by decide +kernel
theorem dc_M_known_10 : decode prog_14_method_89_code 10 = .ok (.aload_n 0, 1) := by decide +kernel
theorem dc_M_known_11 : decode prog_14_method_89_code 11 = .ok (.getfield 412, 3) := by decide +kernel
theorem dc_M_known_14 : decode prog_14_method_89_code 14 = .ok (.if_icmp .ge 12, 3) := by decide +kernel
theorem dc_M_known_17 : decode prog_14_method_89_code 17 = .ok (.iload_n 2, 1) := by decide +kernel
theorem dc_M_known_18 : decode prog_14_method_89_code 18 = .ok (.ifCond .lt 8, 3) := by decide +kernel
theorem dc_M_known_21 : decode prog_14_method_89_code 21 = .ok (.iload_n 2, 1) := by decide +kernel
theorem dc_M_known_22 : decode prog_14_method_89_code 22 = .ok (.iconst 3, 1) := by decide +kernel
theorem dc_M_known_23 : decode prog_14_method_89_code 23 = .ok (.if_icmp .le 5, 3) := by decide +kernel
theorem dc_M_known_26 : decode prog_14_method_89_code 26 = .ok (.iconst (-1), 1) := by decide +kernel
theorem dc_M_known_27 : decode prog_14_method_89_code 27 = .ok (.ireturn, 1) := by decide +kernel
theorem dc_M_known_28 : decode prog_14_method_89_code 28 = .ok (.iload_n 2, 1) := by decide +kernel
theorem dc_M_known_29 : decode prog_14_method_89_code 29 = .ok (.iconst 3, 1) := by decide +kernel
theorem dc_M_known_30 : decode prog_14_method_89_code 30 = .ok (.if_icmp .ne 27, 3) := by decide +kernel
theorem dc_M_known_33 : decode prog_14_method_89_code 33 = .ok (.aload_n 0, 1) := by decide +kernel
theorem dc_M_known_34 : decode prog_14_method_89_code 34 = .ok (.iload_n 1, 1) := by decide +kernel
theorem dc_M_known_35 : decode prog_14_method_89_code 35 = .ok (.iconst 4, 1) := by decide +kernel
theorem dc_M_known_36 : decode prog_14_method_89_code 36 = .ok (.invokevirtual 415, 3) := by decide +kernel
theorem dc_M_known_39 : decode prog_14_method_89_code 39 = .ok (.ifCond .ge 7, 3) := by decide +kernel
theorem dc_M_known_42 : decode prog_14_method_89_code 42 = .ok (.iconst (-1), 1) := by decide +kernel
theorem dc_M_known_43 : decode prog_14_method_89_code 43 = .ok (.goto 13, 3) := by decide +kernel
theorem dc_M_known_46 : decode prog_14_method_89_code 46 = .ok (.aload_n 0, 1) := by decide +kernel
theorem dc_M_known_47 : decode prog_14_method_89_code 47 = .ok (.aload_n 0, 1) := by decide +kernel
theorem dc_M_known_48 : decode prog_14_method_89_code 48 = .ok (.iload_n 1, 1) := by decide +kernel
theorem dc_M_known_49 : decode prog_14_method_89_code 49 = .ok (.iconst 4, 1) := by decide +kernel
theorem dc_M_known_50 : decode prog_14_method_89_code 50 = .ok (.invokevirtual 415, 3) := by decide +kernel
theorem dc_M_known_53 : decode prog_14_method_89_code 53 = .ok (.invokevirtual 418, 3) := by decide +kernel
theorem dc_M_known_56 : decode prog_14_method_89_code 56 = .ok (.ireturn, 1) := by decide +kernel
theorem dc_M_known_57 : decode prog_14_method_89_code 57 = .ok (.aload_n 0, 1) := by decide +kernel
theorem dc_M_known_58 : decode prog_14_method_89_code 58 = .ok (.iload_n 1, 1) := by decide +kernel
theorem dc_M_known_59 : decode prog_14_method_89_code 59 = .ok (.iload_n 2, 1) := by decide +kernel
theorem dc_M_known_60 : decode prog_14_method_89_code 60 = .ok (.ifCond .ne 7, 3) := by decide +kernel
theorem dc_M_known_63 : decode prog_14_method_89_code 63 = .ok (.iconst 1, 1) := by decide +kernel
theorem dc_M_known_64 : decode prog_14_method_89_code 64 = .ok (.goto 13, 3) := by decide +kernel
theorem dc_M_known_67 : decode prog_14_method_89_code 67 = .ok (.iload_n 2, 1) := by decide +kernel
theorem dc_M_known_68 : decode prog_14_method_89_code 68 = .ok (.iconst 1, 1) := by decide +kernel
theorem dc_M_known_69 : decode prog_14_method_89_code 69 = .ok (.if_icmp .ne 7, 3) := by decide +kernel
theorem dc_M_known_72 : decode prog_14_method_89_code 72 = .ok (.iconst 2, 1) := by decide +kernel
theorem dc_M_known_73 : decode prog_14_method_89_code 73 = .ok (.goto 4, 3) := by decide +kernel
theorem dc_M_known_76 : decode prog_14_method_89_code 76 = .ok (.iconst 3, 1) := by decide +kernel
theorem dc_M_known_77 : decode prog_14_method_89_code 77 = .ok (.invokevirtual 415, 3) := by decide +kernel
theorem dc_M_known_80 : decode prog_14_method_89_code 80 = .ok (.ireturn, 1) := by decide +kernel
theorem dc_M_asking_0 : decode prog_14_method_90_code 0 = .ok (.aload_n 0, 1) := by decide +kernel
theorem dc_M_asking_1 : decode prog_14_method_90_code 1 = .ok (.iconst 0, 1) := by decide +kernel
theorem dc_M_asking_2 : decode prog_14_method_90_code 2 = .ok (.putfield 1, 3) := by decide +kernel
theorem fp_M_asking_1 : am_fp mt_M_asking.1 1 12 2 (.int) := ⟨"WebFinderModel", tt_M, 90, rfl, by decide, ct_M 2 (by decide), Or.inl ⟨(am_t7 113 rfl rfl), Or.inl rfl⟩⟩
theorem dc_M_asking_5 : decode prog_14_method_90_code 5 = .ok (.iload_n 1, 1) := by decide +kernel
theorem dc_M_asking_6 : decode prog_14_method_90_code 6 = .ok (.ifCond .lt 27, 3) := by decide +kernel
theorem dc_M_asking_9 : decode prog_14_method_90_code 9 = .ok (.iload_n 1, 1) := by decide +kernel
theorem dc_M_asking_10 : decode prog_14_method_90_code 10 = .ok (.aload_n 0, 1) := by decide +kernel
theorem dc_M_asking_11 : decode prog_14_method_90_code 11 = .ok (.getfield 436, 3) := by decide +kernel
theorem dc_M_asking_14 : decode prog_14_method_90_code 14 = .ok (.if_icmp .ge 19, 3) := by decide +kernel
theorem dc_M_asking_17 : decode prog_14_method_90_code 17 = .ok (.iload_n 1, 1) := by decide +kernel
theorem dc_M_asking_18 : decode prog_14_method_90_code 18 = .ok (.sipush 1000, 3) := by decide +kernel
theorem dc_M_asking_21 : decode prog_14_method_90_code 21 = .ok (.if_icmp .ge 12, 3) := by decide +kernel
theorem dc_M_asking_24 : decode prog_14_method_90_code 24 = .ok (.iload_n 2, 1) := by decide +kernel
theorem dc_M_asking_25 : decode prog_14_method_90_code 25 = .ok (.ifCond .lt 8, 3) := by decide +kernel
theorem dc_M_asking_28 : decode prog_14_method_90_code 28 = .ok (.iload_n 2, 1) := by decide +kernel
theorem dc_M_asking_29 : decode prog_14_method_90_code 29 = .ok (.iconst 1, 1) := by decide +kernel
theorem dc_M_asking_30 : decode prog_14_method_90_code 30 = .ok (.if_icmp .le 5, 3) := by decide +kernel
theorem dc_M_asking_33 : decode prog_14_method_90_code 33 = .ok (.iconst (-1), 1) := by decide +kernel
theorem dc_M_asking_34 : decode prog_14_method_90_code 34 = .ok (.ireturn, 1) := by decide +kernel
theorem dc_M_asking_35 : decode prog_14_method_90_code 35 = .ok (.iload_n 2, 1) := by decide +kernel
theorem dc_M_asking_36 : decode prog_14_method_90_code 36 = .ok (.ifCond .ne 12, 3) := by decide +kernel
theorem dc_M_asking_39 : decode prog_14_method_90_code 39 = .ok (.aload_n 0, 1) := by decide +kernel
theorem dc_M_asking_40 : decode prog_14_method_90_code 40 = .ok (.getfield 362, 3) := by decide +kernel
theorem dc_M_asking_43 : decode prog_14_method_90_code 43 = .ok (.iload_n 1, 1) := by decide +kernel
theorem dc_M_asking_44 : decode prog_14_method_90_code 44 = .ok (.iaload, 1) := by decide +kernel
theorem dc_M_asking_45 : decode prog_14_method_90_code 45 = .ok (.goto 13, 3) := by decide +kernel
theorem dc_M_asking_48 : decode prog_14_method_90_code 48 = .ok (.aload_n 0, 1) := by decide +kernel
theorem dc_M_asking_49 : decode prog_14_method_90_code 49 = .ok (.aload_n 0, 1) := by decide +kernel
theorem dc_M_asking_50 : decode prog_14_method_90_code 50 = .ok (.getfield 365, 3) := by decide +kernel
theorem dc_M_asking_53 : decode prog_14_method_90_code 53 = .ok (.iload_n 1, 1) := by decide +kernel
theorem dc_M_asking_54 : decode prog_14_method_90_code 54 = .ok (.iaload, 1) := by decide +kernel
theorem dc_M_asking_55 : decode prog_14_method_90_code 55 = .ok (.invokevirtual 532, 3) := by decide +kernel
theorem mo_M_showAddress : am_mo mt_M_showAddress 1 := ⟨⟨by decide +kernel, by decide +kernel⟩, by decide +kernel, ⟨by decide +kernel, by decide +kernel⟩, (am_t9 210 rfl rfl), (am_t1 11 rfl rfl), by decide +kernel⟩
theorem im_M_showAddress : Cond.instanceMethod mt_M_showAddress.1 ∈ am_gw := (am_t9 209 rfl rfl)
theorem se_M_showAddress : Cond.selects mt_M_showAddress.1.cls mt_M_showAddress.1 mt_M_showAddress.1 ∈ am_gw := am_in (List.mem_append_left _ (by decide +kernel)) rfl
theorem ln_M_532 : am_ln "WebFinderModel" 532 mt_M_showAddress.1 := Or.inl (am_t9 207 rfl rfl)
theorem dc_M_asking_58 : decode prog_14_method_90_code 58 = .ok (.ireturn, 1) := by decide +kernel
theorem dc_M_showAddress_0 : decode prog_14_method_71_code 0 = .ok (.aload_n 0, 1) := by decide +kernel
theorem dc_M_showAddress_1 : decode prog_14_method_71_code 1 = .ok (.aload_n 0, 1) := by decide +kernel
theorem dc_M_showAddress_2 : decode prog_14_method_71_code 2 = .ok (.getfield 41, 3) := by decide +kernel
theorem dc_M_showAddress_5 : decode prog_14_method_71_code 5 = .ok (.aload_n 0, 1) := by decide +kernel
theorem dc_M_showAddress_6 : decode prog_14_method_71_code 6 = .ok (.getfield 31, 3) := by decide +kernel
theorem dc_M_showAddress_9 : decode prog_14_method_71_code 9 = .ok (.iload_n 1, 1) := by decide +kernel
theorem dc_M_showAddress_10 : decode prog_14_method_71_code 10 = .ok (.iaload, 1) := by decide +kernel
theorem dc_M_showAddress_11 : decode prog_14_method_71_code 11 = .ok (.aload_n 0, 1) := by decide +kernel
theorem dc_M_showAddress_12 : decode prog_14_method_71_code 12 = .ok (.getfield 35, 3) := by decide +kernel
theorem dc_M_showAddress_15 : decode prog_14_method_71_code 15 = .ok (.iload_n 1, 1) := by decide +kernel
theorem dc_M_showAddress_16 : decode prog_14_method_71_code 16 = .ok (.iaload, 1) := by decide +kernel
theorem dc_M_showAddress_17 : decode prog_14_method_71_code 17 = .ok (.invokevirtual 502, 3) := by decide +kernel
theorem dc_M_showAddress_20 : decode prog_14_method_71_code 20 = .ok (.ireturn, 1) := by decide +kernel
theorem dc_M_address_0 : decode prog_14_method_91_code 0 = .ok (.aload_n 0, 1) := by decide +kernel
theorem dc_M_address_1 : decode prog_14_method_91_code 1 = .ok (.iconst 0, 1) := by decide +kernel
theorem dc_M_address_2 : decode prog_14_method_91_code 2 = .ok (.putfield 1, 3) := by decide +kernel
theorem fp_M_address_1 : am_fp mt_M_address.1 1 12 2 (.int) := ⟨"WebFinderModel", tt_M, 90, rfl, by decide, ct_M 2 (by decide), Or.inl ⟨(am_t7 113 rfl rfl), Or.inl rfl⟩⟩
theorem dc_M_address_5 : decode prog_14_method_91_code 5 = .ok (.iload_n 1, 1) := by decide +kernel
theorem dc_M_address_6 : decode prog_14_method_91_code 6 = .ok (.ifCond .lt 11, 3) := by decide +kernel
theorem dc_M_address_9 : decode prog_14_method_91_code 9 = .ok (.iload_n 1, 1) := by decide +kernel
theorem dc_M_address_10 : decode prog_14_method_91_code 10 = .ok (.aload_n 0, 1) := by decide +kernel
theorem dc_M_address_11 : decode prog_14_method_91_code 11 = .ok (.getfield 412, 3) := by decide +kernel
theorem dc_M_address_14 : decode prog_14_method_91_code 14 = .ok (.if_icmp .lt 7, 3) := by decide +kernel
theorem dc_M_address_17 : decode prog_14_method_91_code 17 = .ok (.iconst (-1), 1) := by decide +kernel
theorem dc_M_address_18 : decode prog_14_method_91_code 18 = .ok (.goto 13, 3) := by decide +kernel
theorem dc_M_address_21 : decode prog_14_method_91_code 21 = .ok (.aload_n 0, 1) := by decide +kernel
theorem dc_M_address_22 : decode prog_14_method_91_code 22 = .ok (.aload_n 0, 1) := by decide +kernel
theorem dc_M_address_23 : decode prog_14_method_91_code 23 = .ok (.iload_n 1, 1) := by decide +kernel
theorem dc_M_address_24 : decode prog_14_method_91_code 24 = .ok (.iconst 0, 1) := by decide +kernel
theorem dc_M_address_25 : decode prog_14_method_91_code 25 = .ok (.invokevirtual 415, 3) := by decide +kernel
theorem dc_M_address_28 : decode prog_14_method_91_code 28 = .ok (.invokevirtual 532, 3) := by decide +kernel
theorem dc_M_address_31 : decode prog_14_method_91_code 31 = .ok (.ireturn, 1) := by decide +kernel
theorem dc_M_find_0 : decode prog_14_method_92_code 0 = .ok (.aload_n 0, 1) := by decide +kernel
theorem dc_M_find_1 : decode prog_14_method_92_code 1 = .ok (.iconst 0, 1) := by decide +kernel
theorem dc_M_find_2 : decode prog_14_method_92_code 2 = .ok (.putfield 1, 3) := by decide +kernel
theorem fp_M_find_1 : am_fp mt_M_find.1 1 12 2 (.int) := ⟨"WebFinderModel", tt_M, 90, rfl, by decide, ct_M 2 (by decide), Or.inl ⟨(am_t7 113 rfl rfl), Or.inl rfl⟩⟩
theorem dc_M_find_5 : decode prog_14_method_92_code 5 = .ok (.aload_n 0, 1) := by decide +kernel
theorem dc_M_find_6 : decode prog_14_method_92_code 6 = .ok (.getfield 520, 3) := by decide +kernel
theorem dc_M_find_9 : decode prog_14_method_92_code 9 = .ok (.ifCond .eq 20, 3) := by decide +kernel
theorem dc_M_find_12 : decode prog_14_method_92_code 12 = .ok (.aload_n 0, 1) := by decide +kernel
theorem dc_M_find_13 : decode prog_14_method_92_code 13 = .ok (.invokevirtual 535, 3) := by decide +kernel
theorem mo_M_isDone : am_mo mt_M_isDone 0 := ⟨⟨by decide +kernel, by decide +kernel⟩, by decide +kernel, ⟨by decide +kernel, by decide +kernel⟩, (am_t9 222 rfl rfl), (am_t1 11 rfl rfl), by decide +kernel⟩
theorem im_M_isDone : Cond.instanceMethod mt_M_isDone.1 ∈ am_gw := (am_t9 221 rfl rfl)
theorem se_M_isDone : Cond.selects mt_M_isDone.1.cls mt_M_isDone.1 mt_M_isDone.1 ∈ am_gw := am_in (List.mem_append_left _ (by decide +kernel)) rfl
theorem ln_M_535 : am_ln "WebFinderModel" 535 mt_M_isDone.1 := Or.inl (am_t9 219 rfl rfl)
theorem dc_M_find_16 : decode prog_14_method_92_code 16 = .ok (.ifCond .eq 13, 3) := by decide +kernel
theorem dc_M_find_19 : decode prog_14_method_92_code 19 = .ok (.iload_n 1, 1) := by decide +kernel
theorem dc_M_find_20 : decode prog_14_method_92_code 20 = .ok (.ifCond .lt 9, 3) := by decide +kernel
theorem dc_M_find_23 : decode prog_14_method_92_code 23 = .ok (.iload_n 1, 1) := by decide +kernel
theorem dc_M_find_24 : decode prog_14_method_92_code 24 = .ok (.bipush 50, 2) := by decide +kernel
theorem dc_M_find_26 : decode prog_14_method_92_code 26 = .ok (.if_icmp .le 5, 3) := by decide +kernel
theorem dc_M_find_29 : decode prog_14_method_92_code 29 = .ok (.iconst (-1), 1) := by decide +kernel
theorem dc_M_find_30 : decode prog_14_method_92_code 30 = .ok (.ireturn, 1) := by decide +kernel
theorem dc_M_find_31 : decode prog_14_method_92_code 31 = .ok (.aload_n 0, 1) := by decide +kernel
theorem dc_M_find_32 : decode prog_14_method_92_code 32 = .ok (.invokevirtual 538, 3) := by decide +kernel
theorem mo_M_gather : am_mo mt_M_gather 0 := ⟨⟨by decide +kernel, by decide +kernel⟩, by decide +kernel, ⟨by decide +kernel, by decide +kernel⟩, (am_t9 226 rfl rfl), (am_t1 11 rfl rfl), by decide +kernel⟩
theorem im_M_gather : Cond.instanceMethod mt_M_gather.1 ∈ am_gw := (am_t9 225 rfl rfl)
theorem se_M_gather : Cond.selects mt_M_gather.1.cls mt_M_gather.1 mt_M_gather.1 ∈ am_gw := am_in (List.mem_append_left _ (by decide +kernel)) rfl
theorem ln_M_538 : am_ln "WebFinderModel" 538 mt_M_gather.1 := Or.inl (am_t9 223 rfl rfl)
theorem dc_M_find_35 : decode prog_14_method_92_code 35 = .ok (.aload_n 0, 1) := by decide +kernel
theorem dc_M_find_36 : decode prog_14_method_92_code 36 = .ok (.invokevirtual 541, 3) := by decide +kernel
theorem mo_M_connect : am_mo mt_M_connect 0 := ⟨⟨by decide +kernel, by decide +kernel⟩, by decide +kernel, ⟨by decide +kernel, by decide +kernel⟩, (am_t10 2 rfl rfl), (am_t1 11 rfl rfl), by decide +kernel⟩
theorem im_M_connect : Cond.instanceMethod mt_M_connect.1 ∈ am_gw := (am_t10 1 rfl rfl)
theorem se_M_connect : Cond.selects mt_M_connect.1.cls mt_M_connect.1 mt_M_connect.1 ∈ am_gw := am_in (List.mem_append_left _ (by decide +kernel)) rfl
theorem ln_M_541 : am_ln "WebFinderModel" 541 mt_M_connect.1 := Or.inl (am_t9 239 rfl rfl)
theorem dc_M_find_39 : decode prog_14_method_92_code 39 = .ok (.aload_n 0, 1) := by decide +kernel
theorem dc_M_find_40 : decode prog_14_method_92_code 40 = .ok (.iload_n 1, 1) := by decide +kernel
theorem dc_M_find_41 : decode prog_14_method_92_code 41 = .ok (.invokevirtual 544, 3) := by decide +kernel
theorem mo_M_rank : am_mo mt_M_rank 1 := ⟨⟨by decide +kernel, by decide +kernel⟩, by decide +kernel, ⟨by decide +kernel, by decide +kernel⟩, (am_t10 10 rfl rfl), (am_t1 11 rfl rfl), by decide +kernel⟩
theorem im_M_rank : Cond.instanceMethod mt_M_rank.1 ∈ am_gw := (am_t10 9 rfl rfl)
theorem se_M_rank : Cond.selects mt_M_rank.1.cls mt_M_rank.1 mt_M_rank.1 ∈ am_gw := am_in (List.mem_append_left _ (by decide +kernel)) rfl
theorem ln_M_544 : am_ln "WebFinderModel" 544 mt_M_rank.1 := Or.inl (am_t10 7 rfl rfl)
theorem dc_M_find_44 : decode prog_14_method_92_code 44 = .ok (.aload_n 0, 1) := by decide +kernel
theorem dc_M_find_45 : decode prog_14_method_92_code 45 = .ok (.iconst 0, 1) := by decide +kernel
theorem dc_M_find_46 : decode prog_14_method_92_code 46 = .ok (.putfield 547, 3) := by decide +kernel
theorem fp_M_find_547 : am_fp mt_M_find.1 547 12 84 (.int) := ⟨"WebFinderModel", tt_M, 90, rfl, by decide, ct_M 84 (by decide), Or.inl ⟨(am_t7 195 rfl rfl), Or.inl rfl⟩⟩
theorem dc_M_find_49 : decode prog_14_method_92_code 49 = .ok (.aload_n 0, 1) := by decide +kernel
theorem dc_M_find_50 : decode prog_14_method_92_code 50 = .ok (.getfield 467, 3) := by decide +kernel
theorem fl_M_467 : am_fl "WebFinderModel" 467 12 75 := ⟨"WebFinderModel", tt_M, 90, rfl, by decide, Or.inl (am_t7 186 rfl rfl)⟩
theorem dc_M_find_53 : decode prog_14_method_92_code 53 = .ok (.ireturn, 1) := by decide +kernel
theorem dc_M_isDone_0 : decode prog_14_method_54_code 0 = .ok (.aload_n 0, 1) := by decide +kernel
theorem dc_M_isDone_1 : decode prog_14_method_54_code 1 = .ok (.invokevirtual 458, 3) := by decide +kernel
theorem dc_M_isDone_4 : decode prog_14_method_54_code 4 = .ok (.ifCond .ge 7, 3) := by decide +kernel
theorem dc_M_isDone_7 : decode prog_14_method_54_code 7 = .ok (.iconst 1, 1) := by decide +kernel
theorem dc_M_isDone_8 : decode prog_14_method_54_code 8 = .ok (.goto 4, 3) := by decide +kernel
theorem dc_M_isDone_11 : decode prog_14_method_54_code 11 = .ok (.iconst 0, 1) := by decide +kernel
theorem dc_M_isDone_12 : decode prog_14_method_54_code 12 = .ok (.ireturn, 1) := by decide +kernel
theorem dc_M_gather_0 : decode prog_14_method_57_code 0 = .ok (.aload_n 0, 1) := by decide +kernel
theorem dc_M_gather_1 : decode prog_14_method_57_code 1 = .ok (.iconst 0, 1) := by decide +kernel
theorem dc_M_gather_2 : decode prog_14_method_57_code 2 = .ok (.putfield 467, 3) := by decide +kernel
theorem fp_M_gather_467 : am_fp mt_M_gather.1 467 12 75 (.int) := ⟨"WebFinderModel", tt_M, 90, rfl, by decide, ct_M 75 (by decide), Or.inl ⟨(am_t7 186 rfl rfl), Or.inl rfl⟩⟩
theorem dc_M_gather_5 : decode prog_14_method_57_code 5 = .ok (.iconst 0, 1) := by decide +kernel
theorem dc_M_gather_6 : decode prog_14_method_57_code 6 = .ok (.istore_n 1, 1) := by decide +kernel
theorem dc_M_gather_7 : decode prog_14_method_57_code 7 = .ok (.iload_n 1, 1) := by decide +kernel
theorem dc_M_gather_8 : decode prog_14_method_57_code 8 = .ok (.aload_n 0, 1) := by decide +kernel
theorem dc_M_gather_9 : decode prog_14_method_57_code 9 = .ok (.getfield 412, 3) := by decide +kernel
theorem dc_M_gather_12 : decode prog_14_method_57_code 12 = .ok (.if_icmp .ge 136, 3) := by decide +kernel
theorem dc_M_gather_15 : decode prog_14_method_57_code 15 = .ok (.aload_n 0, 1) := by decide +kernel
theorem dc_M_gather_16 : decode prog_14_method_57_code 16 = .ok (.iload_n 1, 1) := by decide +kernel
theorem dc_M_gather_17 : decode prog_14_method_57_code 17 = .ok (.invokevirtual 470, 3) := by decide +kernel
theorem mo_M_isFirst : am_mo mt_M_isFirst 1 := ⟨⟨by decide +kernel, by decide +kernel⟩, by decide +kernel, ⟨by decide +kernel, by decide +kernel⟩, (am_t9 230 rfl rfl), (am_t1 11 rfl rfl), by decide +kernel⟩
theorem im_M_isFirst : Cond.instanceMethod mt_M_isFirst.1 ∈ am_gw := (am_t9 229 rfl rfl)
theorem se_M_isFirst : Cond.selects mt_M_isFirst.1.cls mt_M_isFirst.1 mt_M_isFirst.1 ∈ am_gw := am_in (List.mem_append_left _ (by decide +kernel)) rfl
theorem ln_M_470 : am_ln "WebFinderModel" 470 mt_M_isFirst.1 := Or.inl (am_t9 227 rfl rfl)
theorem dc_M_gather_20 : decode prog_14_method_57_code 20 = .ok (.ifCond .eq 122, 3) := by decide +kernel
theorem dc_M_gather_23 : decode prog_14_method_57_code 23 = .ok (.aload_n 0, 1) := by decide +kernel
theorem dc_M_gather_24 : decode prog_14_method_57_code 24 = .ok (.getfield 467, 3) := by decide +kernel
theorem dc_M_gather_27 : decode prog_14_method_57_code 27 = .ok (.istore_n 2, 1) := by decide +kernel
theorem dc_M_gather_28 : decode prog_14_method_57_code 28 = .ok (.iload_n 2, 1) := by decide +kernel
theorem dc_M_gather_29 : decode prog_14_method_57_code 29 = .ok (.ifCond .le 72, 3) := by decide +kernel
theorem dc_M_gather_32 : decode prog_14_method_57_code 32 = .ok (.aload_n 0, 1) := by decide +kernel
theorem dc_M_gather_33 : decode prog_14_method_57_code 33 = .ok (.aload_n 0, 1) := by decide +kernel
theorem dc_M_gather_34 : decode prog_14_method_57_code 34 = .ok (.iload_n 1, 1) := by decide +kernel
theorem dc_M_gather_35 : decode prog_14_method_57_code 35 = .ok (.iconst 0, 1) := by decide +kernel
theorem dc_M_gather_36 : decode prog_14_method_57_code 36 = .ok (.invokevirtual 415, 3) := by decide +kernel
theorem dc_M_gather_39 : decode prog_14_method_57_code 39 = .ok (.aload_n 0, 1) := by decide +kernel
theorem dc_M_gather_40 : decode prog_14_method_57_code 40 = .ok (.getfield 374, 3) := by decide +kernel
theorem fl_M_374 : am_fl "WebFinderModel" 374 12 76 := ⟨"WebFinderModel", tt_M, 90, rfl, by decide, Or.inl (am_t7 187 rfl rfl)⟩
theorem dc_M_gather_43 : decode prog_14_method_57_code 43 = .ok (.iload_n 2, 1) := by decide +kernel
theorem dc_M_gather_44 : decode prog_14_method_57_code 44 = .ok (.iconst 1, 1) := by decide +kernel
theorem dc_M_gather_45 : decode prog_14_method_57_code 45 = .ok (.isub, 1) := by decide +kernel
theorem dc_M_gather_46 : decode prog_14_method_57_code 46 = .ok (.iaload, 1) := by decide +kernel
theorem dc_M_gather_47 : decode prog_14_method_57_code 47 = .ok (.invokevirtual 464, 3) := by decide +kernel
theorem mo_M_isBefore : am_mo mt_M_isBefore 2 := ⟨⟨by decide +kernel, by decide +kernel⟩, by decide +kernel, ⟨by decide +kernel, by decide +kernel⟩, (am_t9 238 rfl rfl), (am_t1 11 rfl rfl), by decide +kernel⟩
theorem im_M_isBefore : Cond.instanceMethod mt_M_isBefore.1 ∈ am_gw := (am_t9 237 rfl rfl)
theorem se_M_isBefore : Cond.selects mt_M_isBefore.1.cls mt_M_isBefore.1 mt_M_isBefore.1 ∈ am_gw := am_in (List.mem_append_left _ (by decide +kernel)) rfl
theorem ln_M_464 : am_ln "WebFinderModel" 464 mt_M_isBefore.1 := Or.inl (am_t9 235 rfl rfl)
theorem dc_M_gather_50 : decode prog_14_method_57_code 50 = .ok (.ifCond .eq 51, 3) := by decide +kernel
theorem dc_M_gather_53 : decode prog_14_method_57_code 53 = .ok (.aload_n 0, 1) := by decide +kernel
theorem dc_M_gather_54 : decode prog_14_method_57_code 54 = .ok (.getfield 374, 3) := by decide +kernel
theorem dc_M_gather_57 : decode prog_14_method_57_code 57 = .ok (.iload_n 2, 1) := by decide +kernel
theorem dc_M_gather_58 : decode prog_14_method_57_code 58 = .ok (.aload_n 0, 1) := by decide +kernel
theorem dc_M_gather_59 : decode prog_14_method_57_code 59 = .ok (.getfield 374, 3) := by decide +kernel
theorem dc_M_gather_62 : decode prog_14_method_57_code 62 = .ok (.iload_n 2, 1) := by decide +kernel
theorem dc_M_gather_63 : decode prog_14_method_57_code 63 = .ok (.iconst 1, 1) := by decide +kernel
theorem dc_M_gather_64 : decode prog_14_method_57_code 64 = .ok (.isub, 1) := by decide +kernel
theorem dc_M_gather_65 : decode prog_14_method_57_code 65 = .ok (.iaload, 1) := by decide +kernel
theorem dc_M_gather_66 : decode prog_14_method_57_code 66 = .ok (.iastore, 1) := by decide +kernel
theorem dc_M_gather_67 : decode prog_14_method_57_code 67 = .ok (.aload_n 0, 1) := by decide +kernel
theorem dc_M_gather_68 : decode prog_14_method_57_code 68 = .ok (.getfield 377, 3) := by decide +kernel
theorem fl_M_377 : am_fl "WebFinderModel" 377 12 77 := ⟨"WebFinderModel", tt_M, 90, rfl, by decide, Or.inl (am_t7 188 rfl rfl)⟩
theorem dc_M_gather_71 : decode prog_14_method_57_code 71 = .ok (.iload_n 2, 1) := by decide +kernel
theorem dc_M_gather_72 : decode prog_14_method_57_code 72 = .ok (.aload_n 0, 1) := by decide +kernel
theorem dc_M_gather_73 : decode prog_14_method_57_code 73 = .ok (.getfield 377, 3) := by decide +kernel
theorem dc_M_gather_76 : decode prog_14_method_57_code 76 = .ok (.iload_n 2, 1) := by decide +kernel
theorem dc_M_gather_77 : decode prog_14_method_57_code 77 = .ok (.iconst 1, 1) := by decide +kernel
theorem dc_M_gather_78 : decode prog_14_method_57_code 78 = .ok (.isub, 1) := by decide +kernel
theorem dc_M_gather_79 : decode prog_14_method_57_code 79 = .ok (.iaload, 1) := by decide +kernel
theorem dc_M_gather_80 : decode prog_14_method_57_code 80 = .ok (.iastore, 1) := by decide +kernel
theorem dc_M_gather_81 : decode prog_14_method_57_code 81 = .ok (.aload_n 0, 1) := by decide +kernel
theorem dc_M_gather_82 : decode prog_14_method_57_code 82 = .ok (.getfield 380, 3) := by decide +kernel
theorem fl_M_380 : am_fl "WebFinderModel" 380 12 78 := ⟨"WebFinderModel", tt_M, 90, rfl, by decide, Or.inl (am_t7 189 rfl rfl)⟩
theorem dc_M_gather_85 : decode prog_14_method_57_code 85 = .ok (.iload_n 2, 1) := by decide +kernel
theorem dc_M_gather_86 : decode prog_14_method_57_code 86 = .ok (.aload_n 0, 1) := by decide +kernel
theorem dc_M_gather_87 : decode prog_14_method_57_code 87 = .ok (.getfield 380, 3) := by decide +kernel
theorem dc_M_gather_90 : decode prog_14_method_57_code 90 = .ok (.iload_n 2, 1) := by decide +kernel
theorem dc_M_gather_91 : decode prog_14_method_57_code 91 = .ok (.iconst 1, 1) := by decide +kernel
theorem dc_M_gather_92 : decode prog_14_method_57_code 92 = .ok (.isub, 1) := by decide +kernel
theorem dc_M_gather_93 : decode prog_14_method_57_code 93 = .ok (.iaload, 1) := by decide +kernel
theorem dc_M_gather_94 : decode prog_14_method_57_code 94 = .ok (.iastore, 1) := by decide +kernel
theorem dc_M_gather_95 : decode prog_14_method_57_code 95 = .ok (.iinc 2 (-1), 3) := by decide +kernel
theorem dc_M_gather_98 : decode prog_14_method_57_code 98 = .ok (.goto (-70), 3) := by decide +kernel
theorem dc_M_gather_101 : decode prog_14_method_57_code 101 = .ok (.aload_n 0, 1) := by decide +kernel
theorem dc_M_gather_102 : decode prog_14_method_57_code 102 = .ok (.getfield 374, 3) := by decide +kernel
theorem dc_M_gather_105 : decode prog_14_method_57_code 105 = .ok (.iload_n 2, 1) := by decide +kernel
theorem dc_M_gather_106 : decode prog_14_method_57_code 106 = .ok (.aload_n 0, 1) := by decide +kernel
theorem dc_M_gather_107 : decode prog_14_method_57_code 107 = .ok (.iload_n 1, 1) := by decide +kernel
theorem dc_M_gather_108 : decode prog_14_method_57_code 108 = .ok (.iconst 0, 1) := by decide +kernel
theorem dc_M_gather_109 : decode prog_14_method_57_code 109 = .ok (.invokevirtual 415, 3) := by decide +kernel
theorem dc_M_gather_112 : decode prog_14_method_57_code 112 = .ok (.iastore, 1) := by decide +kernel
theorem dc_M_gather_113 : decode prog_14_method_57_code 113 = .ok (.aload_n 0, 1) := by decide +kernel
theorem dc_M_gather_114 : decode prog_14_method_57_code 114 = .ok (.getfield 377, 3) := by decide +kernel
theorem dc_M_gather_117 : decode prog_14_method_57_code 117 = .ok (.iload_n 2, 1) := by decide +kernel
theorem dc_M_gather_118 : decode prog_14_method_57_code 118 = .ok (.aload_n 0, 1) := by decide +kernel
theorem dc_M_gather_119 : decode prog_14_method_57_code 119 = .ok (.iload_n 1, 1) := by decide +kernel
theorem dc_M_gather_120 : decode prog_14_method_57_code 120 = .ok (.iconst 5, 1) := by decide +kernel
theorem dc_M_gather_121 : decode prog_14_method_57_code 121 = .ok (.invokevirtual 415, 3) := by decide +kernel
theorem dc_M_gather_124 : decode prog_14_method_57_code 124 = .ok (.iastore, 1) := by decide +kernel
theorem dc_M_gather_125 : decode prog_14_method_57_code 125 = .ok (.aload_n 0, 1) := by decide +kernel
theorem dc_M_gather_126 : decode prog_14_method_57_code 126 = .ok (.getfield 380, 3) := by decide +kernel
theorem dc_M_gather_129 : decode prog_14_method_57_code 129 = .ok (.iload_n 2, 1) := by decide +kernel
theorem dc_M_gather_130 : decode prog_14_method_57_code 130 = .ok (.iload_n 1, 1) := by decide +kernel
theorem dc_M_gather_131 : decode prog_14_method_57_code 131 = .ok (.iastore, 1) := by decide +kernel
theorem dc_M_gather_132 : decode prog_14_method_57_code 132 = .ok (.aload_n 0, 1) := by decide +kernel
theorem dc_M_gather_133 : decode prog_14_method_57_code 133 = .ok (.dup, 1) := by decide +kernel
theorem dc_M_gather_134 : decode prog_14_method_57_code 134 = .ok (.getfield 467, 3) := by decide +kernel
theorem dc_M_gather_137 : decode prog_14_method_57_code 137 = .ok (.iconst 1, 1) := by decide +kernel
theorem dc_M_gather_138 : decode prog_14_method_57_code 138 = .ok (.iadd, 1) := by decide +kernel
theorem dc_M_gather_139 : decode prog_14_method_57_code 139 = .ok (.putfield 467, 3) := by decide +kernel
theorem dc_M_gather_142 : decode prog_14_method_57_code 142 = .ok (.iinc 1 1, 3) := by decide +kernel
theorem dc_M_gather_145 : decode prog_14_method_57_code 145 = .ok (.goto (-138), 3) := by decide +kernel
theorem dc_M_gather_148 : decode prog_14_method_57_code 148 = .ok (.iconst 0, 1) := by decide +kernel
theorem dc_M_gather_149 : decode prog_14_method_57_code 149 = .ok (.istore_n 1, 1) := by decide +kernel
theorem dc_M_gather_150 : decode prog_14_method_57_code 150 = .ok (.iload_n 1, 1) := by decide +kernel
theorem dc_M_gather_151 : decode prog_14_method_57_code 151 = .ok (.aload_n 0, 1) := by decide +kernel
theorem dc_M_gather_152 : decode prog_14_method_57_code 152 = .ok (.getfield 467, 3) := by decide +kernel
theorem dc_M_gather_155 : decode prog_14_method_57_code 155 = .ok (.if_icmp .ge 85, 3) := by decide +kernel
theorem dc_M_gather_158 : decode prog_14_method_57_code 158 = .ok (.aload_n 0, 1) := by decide +kernel
theorem dc_M_gather_159 : decode prog_14_method_57_code 159 = .ok (.getfield 383, 3) := by decide +kernel
theorem fl_M_383 : am_fl "WebFinderModel" 383 12 79 := ⟨"WebFinderModel", tt_M, 90, rfl, by decide, Or.inl (am_t7 190 rfl rfl)⟩
theorem dc_M_gather_162 : decode prog_14_method_57_code 162 = .ok (.iload_n 1, 1) := by decide +kernel
theorem dc_M_gather_163 : decode prog_14_method_57_code 163 = .ok (.iconst (-1), 1) := by decide +kernel
theorem dc_M_gather_164 : decode prog_14_method_57_code 164 = .ok (.iastore, 1) := by decide +kernel
theorem dc_M_gather_165 : decode prog_14_method_57_code 165 = .ok (.iconst 0, 1) := by decide +kernel
theorem dc_M_gather_166 : decode prog_14_method_57_code 166 = .ok (.istore_n 2, 1) := by decide +kernel
theorem dc_M_gather_167 : decode prog_14_method_57_code 167 = .ok (.iload_n 2, 1) := by decide +kernel
theorem dc_M_gather_168 : decode prog_14_method_57_code 168 = .ok (.aload_n 0, 1) := by decide +kernel
theorem dc_M_gather_169 : decode prog_14_method_57_code 169 = .ok (.getfield 412, 3) := by decide +kernel
theorem dc_M_gather_172 : decode prog_14_method_57_code 172 = .ok (.if_icmp .ge 62, 3) := by decide +kernel
theorem dc_M_gather_175 : decode prog_14_method_57_code 175 = .ok (.aload_n 0, 1) := by decide +kernel
theorem dc_M_gather_176 : decode prog_14_method_57_code 176 = .ok (.iload_n 2, 1) := by decide +kernel
theorem dc_M_gather_177 : decode prog_14_method_57_code 177 = .ok (.iconst 1, 1) := by decide +kernel
theorem dc_M_gather_178 : decode prog_14_method_57_code 178 = .ok (.invokevirtual 415, 3) := by decide +kernel
theorem dc_M_gather_181 : decode prog_14_method_57_code 181 = .ok (.iconst 2, 1) := by decide +kernel
theorem dc_M_gather_182 : decode prog_14_method_57_code 182 = .ok (.if_icmp .ne 26, 3) := by decide +kernel
theorem dc_M_gather_185 : decode prog_14_method_57_code 185 = .ok (.aload_n 0, 1) := by decide +kernel
theorem dc_M_gather_186 : decode prog_14_method_57_code 186 = .ok (.aload_n 0, 1) := by decide +kernel
theorem dc_M_gather_187 : decode prog_14_method_57_code 187 = .ok (.iload_n 2, 1) := by decide +kernel
theorem dc_M_gather_188 : decode prog_14_method_57_code 188 = .ok (.iconst 5, 1) := by decide +kernel
theorem dc_M_gather_189 : decode prog_14_method_57_code 189 = .ok (.invokevirtual 415, 3) := by decide +kernel
theorem dc_M_gather_192 : decode prog_14_method_57_code 192 = .ok (.aload_n 0, 1) := by decide +kernel
theorem dc_M_gather_193 : decode prog_14_method_57_code 193 = .ok (.getfield 377, 3) := by decide +kernel
theorem dc_M_gather_196 : decode prog_14_method_57_code 196 = .ok (.iload_n 1, 1) := by decide +kernel
theorem dc_M_gather_197 : decode prog_14_method_57_code 197 = .ok (.iaload, 1) := by decide +kernel
theorem dc_M_gather_198 : decode prog_14_method_57_code 198 = .ok (.invokevirtual 461, 3) := by decide +kernel
theorem mo_M_isSameText : am_mo mt_M_isSameText 2 := ⟨⟨by decide +kernel, by decide +kernel⟩, by decide +kernel, ⟨by decide +kernel, by decide +kernel⟩, (am_t9 234 rfl rfl), (am_t1 11 rfl rfl), by decide +kernel⟩
theorem im_M_isSameText : Cond.instanceMethod mt_M_isSameText.1 ∈ am_gw := (am_t9 233 rfl rfl)
theorem se_M_isSameText : Cond.selects mt_M_isSameText.1.cls mt_M_isSameText.1 mt_M_isSameText.1 ∈ am_gw := am_in (List.mem_append_left _ (by decide +kernel)) rfl
theorem ln_M_461 : am_ln "WebFinderModel" 461 mt_M_isSameText.1 := Or.inl (am_t9 231 rfl rfl)
theorem dc_M_gather_201 : decode prog_14_method_57_code 201 = .ok (.ifCond .eq 7, 3) := by decide +kernel
theorem dc_M_gather_204 : decode prog_14_method_57_code 204 = .ok (.iconst 1, 1) := by decide +kernel
theorem dc_M_gather_205 : decode prog_14_method_57_code 205 = .ok (.goto 4, 3) := by decide +kernel
theorem dc_M_gather_208 : decode prog_14_method_57_code 208 = .ok (.iconst 0, 1) := by decide +kernel
theorem dc_M_gather_209 : decode prog_14_method_57_code 209 = .ok (.istore_n 3, 1) := by decide +kernel
theorem dc_M_gather_210 : decode prog_14_method_57_code 210 = .ok (.aload_n 0, 1) := by decide +kernel
theorem dc_M_gather_211 : decode prog_14_method_57_code 211 = .ok (.getfield 383, 3) := by decide +kernel
theorem dc_M_gather_214 : decode prog_14_method_57_code 214 = .ok (.iload_n 1, 1) := by decide +kernel
theorem dc_M_gather_215 : decode prog_14_method_57_code 215 = .ok (.dup2, 1) := by decide +kernel
theorem dc_M_gather_216 : decode prog_14_method_57_code 216 = .ok (.iaload, 1) := by decide +kernel
theorem dc_M_gather_217 : decode prog_14_method_57_code 217 = .ok (.iload_n 3, 1) := by decide +kernel
theorem dc_M_gather_218 : decode prog_14_method_57_code 218 = .ok (.ifCond .eq 7, 3) := by decide +kernel
theorem dc_M_gather_221 : decode prog_14_method_57_code 221 = .ok (.iconst 1, 1) := by decide +kernel
theorem dc_M_gather_222 : decode prog_14_method_57_code 222 = .ok (.goto 4, 3) := by decide +kernel
theorem dc_M_gather_225 : decode prog_14_method_57_code 225 = .ok (.iconst 0, 1) := by decide +kernel
theorem dc_M_gather_226 : decode prog_14_method_57_code 226 = .ok (.iadd, 1) := by decide +kernel
theorem dc_M_gather_227 : decode prog_14_method_57_code 227 = .ok (.iastore, 1) := by decide +kernel
theorem dc_M_gather_228 : decode prog_14_method_57_code 228 = .ok (.iinc 2 1, 3) := by decide +kernel
theorem dc_M_gather_231 : decode prog_14_method_57_code 231 = .ok (.goto (-64), 3) := by decide +kernel
theorem dc_M_gather_234 : decode prog_14_method_57_code 234 = .ok (.iinc 1 1, 3) := by decide +kernel
theorem dc_M_gather_237 : decode prog_14_method_57_code 237 = .ok (.goto (-87), 3) := by decide +kernel
theorem dc_M_gather_240 : decode prog_14_method_57_code 240 = .ok (.return_, 1) := by decide +kernel
theorem dc_M_isFirst_0 : decode prog_14_method_55_code 0 = .ok (.aload_n 0, 1) := by decide +kernel
theorem dc_M_isFirst_1 : decode prog_14_method_55_code 1 = .ok (.iload_n 1, 1) := by decide +kernel
theorem dc_M_isFirst_2 : decode prog_14_method_55_code 2 = .ok (.iconst 1, 1) := by decide +kernel
theorem dc_M_isFirst_3 : decode prog_14_method_55_code 3 = .ok (.invokevirtual 415, 3) := by decide +kernel
theorem dc_M_isFirst_6 : decode prog_14_method_55_code 6 = .ok (.iconst 2, 1) := by decide +kernel
theorem dc_M_isFirst_7 : decode prog_14_method_55_code 7 = .ok (.if_icmp .ne 7, 3) := by decide +kernel
theorem dc_M_isFirst_10 : decode prog_14_method_55_code 10 = .ok (.iconst 1, 1) := by decide +kernel
theorem dc_M_isFirst_11 : decode prog_14_method_55_code 11 = .ok (.goto 4, 3) := by decide +kernel
theorem dc_M_isFirst_14 : decode prog_14_method_55_code 14 = .ok (.iconst 0, 1) := by decide +kernel
theorem dc_M_isFirst_15 : decode prog_14_method_55_code 15 = .ok (.istore_n 2, 1) := by decide +kernel
theorem dc_M_isFirst_16 : decode prog_14_method_55_code 16 = .ok (.iconst 0, 1) := by decide +kernel
theorem dc_M_isFirst_17 : decode prog_14_method_55_code 17 = .ok (.istore_n 3, 1) := by decide +kernel
theorem dc_M_isFirst_18 : decode prog_14_method_55_code 18 = .ok (.iload_n 3, 1) := by decide +kernel
theorem dc_M_isFirst_19 : decode prog_14_method_55_code 19 = .ok (.aload_n 0, 1) := by decide +kernel
theorem dc_M_isFirst_20 : decode prog_14_method_55_code 20 = .ok (.getfield 412, 3) := by decide +kernel
theorem dc_M_isFirst_23 : decode prog_14_method_55_code 23 = .ok (.if_icmp .ge 72, 3) := by decide +kernel
theorem dc_M_isFirst_26 : decode prog_14_method_55_code 26 = .ok (.iload_n 2, 1) := by decide +kernel
theorem dc_M_isFirst_27 : decode prog_14_method_55_code 27 = .ok (.ifCond .eq 68, 3) := by decide +kernel
theorem dc_M_isFirst_30 : decode prog_14_method_55_code 30 = .ok (.iload_n 3, 1) := by decide +kernel
theorem dc_M_isFirst_31 : decode prog_14_method_55_code 31 = .ok (.iload_n 1, 1) := by decide +kernel
theorem dc_M_isFirst_32 : decode prog_14_method_55_code 32 = .ok (.if_icmp .eq 51, 3) := by decide +kernel
theorem dc_M_isFirst_35 : decode prog_14_method_55_code 35 = .ok (.aload_n 0, 1) := by decide +kernel
theorem dc_M_isFirst_36 : decode prog_14_method_55_code 36 = .ok (.iload_n 3, 1) := by decide +kernel
theorem dc_M_isFirst_37 : decode prog_14_method_55_code 37 = .ok (.iconst 1, 1) := by decide +kernel
theorem dc_M_isFirst_38 : decode prog_14_method_55_code 38 = .ok (.invokevirtual 415, 3) := by decide +kernel
theorem dc_M_isFirst_41 : decode prog_14_method_55_code 41 = .ok (.iconst 2, 1) := by decide +kernel
theorem dc_M_isFirst_42 : decode prog_14_method_55_code 42 = .ok (.if_icmp .ne 41, 3) := by decide +kernel
theorem dc_M_isFirst_45 : decode prog_14_method_55_code 45 = .ok (.aload_n 0, 1) := by decide +kernel
theorem dc_M_isFirst_46 : decode prog_14_method_55_code 46 = .ok (.aload_n 0, 1) := by decide +kernel
theorem dc_M_isFirst_47 : decode prog_14_method_55_code 47 = .ok (.iload_n 3, 1) := by decide +kernel
theorem dc_M_isFirst_48 : decode prog_14_method_55_code 48 = .ok (.iconst 5, 1) := by decide +kernel
theorem dc_M_isFirst_49 : decode prog_14_method_55_code 49 = .ok (.invokevirtual 415, 3) := by decide +kernel
theorem dc_M_isFirst_52 : decode prog_14_method_55_code 52 = .ok (.aload_n 0, 1) := by decide +kernel
theorem dc_M_isFirst_53 : decode prog_14_method_55_code 53 = .ok (.iload_n 1, 1) := by decide +kernel
theorem dc_M_isFirst_54 : decode prog_14_method_55_code 54 = .ok (.iconst 5, 1) := by decide +kernel
theorem dc_M_isFirst_55 : decode prog_14_method_55_code 55 = .ok (.invokevirtual 415, 3) := by decide +kernel
theorem dc_M_isFirst_58 : decode prog_14_method_55_code 58 = .ok (.invokevirtual 461, 3) := by decide +kernel
theorem dc_M_isFirst_61 : decode prog_14_method_55_code 61 = .ok (.ifCond .eq 22, 3) := by decide +kernel
theorem dc_M_isFirst_64 : decode prog_14_method_55_code 64 = .ok (.aload_n 0, 1) := by decide +kernel
theorem dc_M_isFirst_65 : decode prog_14_method_55_code 65 = .ok (.aload_n 0, 1) := by decide +kernel
theorem dc_M_isFirst_66 : decode prog_14_method_55_code 66 = .ok (.iload_n 1, 1) := by decide +kernel
theorem dc_M_isFirst_67 : decode prog_14_method_55_code 67 = .ok (.iconst 0, 1) := by decide +kernel
theorem dc_M_isFirst_68 : decode prog_14_method_55_code 68 = .ok (.invokevirtual 415, 3) := by decide +kernel
theorem dc_M_isFirst_71 : decode prog_14_method_55_code 71 = .ok (.aload_n 0, 1) := by decide +kernel
theorem dc_M_isFirst_72 : decode prog_14_method_55_code 72 = .ok (.iload_n 3, 1) := by decide +kernel
theorem dc_M_isFirst_73 : decode prog_14_method_55_code 73 = .ok (.iconst 0, 1) := by decide +kernel
theorem dc_M_isFirst_74 : decode prog_14_method_55_code 74 = .ok (.invokevirtual 415, 3) := by decide +kernel
theorem dc_M_isFirst_77 : decode prog_14_method_55_code 77 = .ok (.invokevirtual 464, 3) := by decide +kernel
theorem dc_M_isFirst_80 : decode prog_14_method_55_code 80 = .ok (.ifCond .eq 7, 3) := by decide +kernel
theorem dc_M_isFirst_83 : decode prog_14_method_55_code 83 = .ok (.iconst 1, 1) := by decide +kernel
theorem dc_M_isFirst_84 : decode prog_14_method_55_code 84 = .ok (.goto 4, 3) := by decide +kernel
theorem dc_M_isFirst_87 : decode prog_14_method_55_code 87 = .ok (.iconst 0, 1) := by decide +kernel
theorem dc_M_isFirst_88 : decode prog_14_method_55_code 88 = .ok (.istore_n 2, 1) := by decide +kernel
theorem dc_M_isFirst_89 : decode prog_14_method_55_code 89 = .ok (.iinc 3 1, 3) := by decide +kernel
theorem dc_M_isFirst_92 : decode prog_14_method_55_code 92 = .ok (.goto (-74), 3) := by decide +kernel
theorem dc_M_isFirst_95 : decode prog_14_method_55_code 95 = .ok (.iload_n 2, 1) := by decide +kernel
theorem dc_M_isFirst_96 : decode prog_14_method_55_code 96 = .ok (.ireturn, 1) := by decide +kernel
theorem dc_M_isSameText_0 : decode prog_14_method_25_code 0 = .ok (.aload_n 0, 1) := by decide +kernel
theorem dc_M_isSameText_1 : decode prog_14_method_25_code 1 = .ok (.getfield 146, 3) := by decide +kernel
theorem dc_M_isSameText_4 : decode prog_14_method_25_code 4 = .ok (.iload_n 1, 1) := by decide +kernel
theorem dc_M_isSameText_5 : decode prog_14_method_25_code 5 = .ok (.iaload, 1) := by decide +kernel
theorem dc_M_isSameText_6 : decode prog_14_method_25_code 6 = .ok (.aload_n 0, 1) := by decide +kernel
theorem dc_M_isSameText_7 : decode prog_14_method_25_code 7 = .ok (.getfield 131, 3) := by decide +kernel
theorem dc_M_isSameText_10 : decode prog_14_method_25_code 10 = .ok (.iload_n 1, 1) := by decide +kernel
theorem dc_M_isSameText_11 : decode prog_14_method_25_code 11 = .ok (.iaload, 1) := by decide +kernel
theorem dc_M_isSameText_12 : decode prog_14_method_25_code 12 = .ok (.isub, 1) := by decide +kernel
theorem dc_M_isSameText_13 : decode prog_14_method_25_code 13 = .ok (.istore_n 3, 1) := by decide +kernel
theorem dc_M_isSameText_14 : decode prog_14_method_25_code 14 = .ok (.aload_n 0, 1) := by decide +kernel
theorem dc_M_isSameText_15 : decode prog_14_method_25_code 15 = .ok (.getfield 146, 3) := by decide +kernel
theorem dc_M_isSameText_18 : decode prog_14_method_25_code 18 = .ok (.iload_n 2, 1) := by decide +kernel
theorem dc_M_isSameText_19 : decode prog_14_method_25_code 19 = .ok (.iaload, 1) := by decide +kernel
theorem dc_M_isSameText_20 : decode prog_14_method_25_code 20 = .ok (.aload_n 0, 1) := by decide +kernel
theorem dc_M_isSameText_21 : decode prog_14_method_25_code 21 = .ok (.getfield 131, 3) := by decide +kernel
theorem dc_M_isSameText_24 : decode prog_14_method_25_code 24 = .ok (.iload_n 2, 1) := by decide +kernel
theorem dc_M_isSameText_25 : decode prog_14_method_25_code 25 = .ok (.iaload, 1) := by decide +kernel
theorem dc_M_isSameText_26 : decode prog_14_method_25_code 26 = .ok (.isub, 1) := by decide +kernel
theorem dc_M_isSameText_27 : decode prog_14_method_25_code 27 = .ok (.iload_n 3, 1) := by decide +kernel
theorem dc_M_isSameText_28 : decode prog_14_method_25_code 28 = .ok (.if_icmp .ne 7, 3) := by decide +kernel
theorem dc_M_isSameText_31 : decode prog_14_method_25_code 31 = .ok (.iconst 1, 1) := by decide +kernel
theorem dc_M_isSameText_32 : decode prog_14_method_25_code 32 = .ok (.goto 4, 3) := by decide +kernel
theorem dc_M_isSameText_35 : decode prog_14_method_25_code 35 = .ok (.iconst 0, 1) := by decide +kernel
theorem dc_M_isSameText_36 : decode prog_14_method_25_code 36 = .ok (.istore 4, 2) := by decide +kernel
theorem dc_M_isSameText_38 : decode prog_14_method_25_code 38 = .ok (.iconst 0, 1) := by decide +kernel
theorem dc_M_isSameText_39 : decode prog_14_method_25_code 39 = .ok (.istore 5, 2) := by decide +kernel
theorem dc_M_isSameText_41 : decode prog_14_method_25_code 41 = .ok (.iload 5, 2) := by decide +kernel
theorem dc_M_isSameText_43 : decode prog_14_method_25_code 43 = .ok (.iload_n 3, 1) := by decide +kernel
theorem dc_M_isSameText_44 : decode prog_14_method_25_code 44 = .ok (.if_icmp .ge 52, 3) := by decide +kernel
theorem dc_M_isSameText_47 : decode prog_14_method_25_code 47 = .ok (.iload 4, 2) := by decide +kernel
theorem dc_M_isSameText_49 : decode prog_14_method_25_code 49 = .ok (.ifCond .eq 47, 3) := by decide +kernel
theorem dc_M_isSameText_52 : decode prog_14_method_25_code 52 = .ok (.aload_n 0, 1) := by decide +kernel
theorem dc_M_isSameText_53 : decode prog_14_method_25_code 53 = .ok (.getfield 140, 3) := by decide +kernel
theorem dc_M_isSameText_56 : decode prog_14_method_25_code 56 = .ok (.aload_n 0, 1) := by decide +kernel
theorem dc_M_isSameText_57 : decode prog_14_method_25_code 57 = .ok (.getfield 131, 3) := by decide +kernel
theorem dc_M_isSameText_60 : decode prog_14_method_25_code 60 = .ok (.iload_n 1, 1) := by decide +kernel
theorem dc_M_isSameText_61 : decode prog_14_method_25_code 61 = .ok (.iaload, 1) := by decide +kernel
theorem dc_M_isSameText_62 : decode prog_14_method_25_code 62 = .ok (.iload 5, 2) := by decide +kernel
theorem dc_M_isSameText_64 : decode prog_14_method_25_code 64 = .ok (.iadd, 1) := by decide +kernel
theorem dc_M_isSameText_65 : decode prog_14_method_25_code 65 = .ok (.baload, 1) := by decide +kernel
theorem dc_M_isSameText_66 : decode prog_14_method_25_code 66 = .ok (.aload_n 0, 1) := by decide +kernel
theorem dc_M_isSameText_67 : decode prog_14_method_25_code 67 = .ok (.getfield 140, 3) := by decide +kernel
theorem dc_M_isSameText_70 : decode prog_14_method_25_code 70 = .ok (.aload_n 0, 1) := by decide +kernel
theorem dc_M_isSameText_71 : decode prog_14_method_25_code 71 = .ok (.getfield 131, 3) := by decide +kernel
theorem dc_M_isSameText_74 : decode prog_14_method_25_code 74 = .ok (.iload_n 2, 1) := by decide +kernel
theorem dc_M_isSameText_75 : decode prog_14_method_25_code 75 = .ok (.iaload, 1) := by decide +kernel
theorem dc_M_isSameText_76 : decode prog_14_method_25_code 76 = .ok (.iload 5, 2) := by decide +kernel
theorem dc_M_isSameText_78 : decode prog_14_method_25_code 78 = .ok (.iadd, 1) := by decide +kernel
theorem dc_M_isSameText_79 : decode prog_14_method_25_code 79 = .ok (.baload, 1) := by decide +kernel
theorem dc_M_isSameText_80 : decode prog_14_method_25_code 80 = .ok (.if_icmp .ne 7, 3) := by decide +kernel
theorem dc_M_isSameText_83 : decode prog_14_method_25_code 83 = .ok (.iconst 1, 1) := by decide +kernel
theorem dc_M_isSameText_84 : decode prog_14_method_25_code 84 = .ok (.goto 4, 3) := by decide +kernel
theorem dc_M_isSameText_87 : decode prog_14_method_25_code 87 = .ok (.iconst 0, 1) := by decide +kernel
theorem dc_M_isSameText_88 : decode prog_14_method_25_code 88 = .ok (.istore 4, 2) := by decide +kernel
theorem dc_M_isSameText_90 : decode prog_14_method_25_code 90 = .ok (.iinc 5 1, 3) := by decide +kernel
theorem dc_M_isSameText_93 : decode prog_14_method_25_code 93 = .ok (.goto (-52), 3) := by decide +kernel
theorem dc_M_isSameText_96 : decode prog_14_method_25_code 96 = .ok (.iload 4, 2) := by decide +kernel
theorem dc_M_isSameText_98 : decode prog_14_method_25_code 98 = .ok (.ireturn, 1) := by decide +kernel
theorem dc_M_isBefore_0 : decode prog_14_method_11_code 0 = .ok (.aload_n 0, 1) := by decide +kernel
theorem dc_M_isBefore_1 : decode prog_14_method_11_code 1 = .ok (.getfield 35, 3) := by decide +kernel
theorem dc_M_isBefore_4 : decode prog_14_method_11_code 4 = .ok (.iload_n 1, 1) := by decide +kernel
theorem dc_M_isBefore_5 : decode prog_14_method_11_code 5 = .ok (.iaload, 1) := by decide +kernel
theorem dc_M_isBefore_6 : decode prog_14_method_11_code 6 = .ok (.aload_n 0, 1) := by decide +kernel
theorem dc_M_isBefore_7 : decode prog_14_method_11_code 7 = .ok (.getfield 35, 3) := by decide +kernel
theorem dc_M_isBefore_10 : decode prog_14_method_11_code 10 = .ok (.iload_n 2, 1) := by decide +kernel
theorem dc_M_isBefore_11 : decode prog_14_method_11_code 11 = .ok (.iaload, 1) := by decide +kernel
theorem dc_M_isBefore_12 : decode prog_14_method_11_code 12 = .ok (.if_icmp .ge 12, 3) := by decide +kernel
theorem dc_M_isBefore_15 : decode prog_14_method_11_code 15 = .ok (.aload_n 0, 1) := by decide +kernel
theorem dc_M_isBefore_16 : decode prog_14_method_11_code 16 = .ok (.getfield 35, 3) := by decide +kernel
theorem dc_M_isBefore_19 : decode prog_14_method_11_code 19 = .ok (.iload_n 1, 1) := by decide +kernel
theorem dc_M_isBefore_20 : decode prog_14_method_11_code 20 = .ok (.iaload, 1) := by decide +kernel
theorem dc_M_isBefore_21 : decode prog_14_method_11_code 21 = .ok (.goto 9, 3) := by decide +kernel
theorem dc_M_isBefore_24 : decode prog_14_method_11_code 24 = .ok (.aload_n 0, 1) := by decide +kernel
theorem dc_M_isBefore_25 : decode prog_14_method_11_code 25 = .ok (.getfield 35, 3) := by decide +kernel
theorem dc_M_isBefore_28 : decode prog_14_method_11_code 28 = .ok (.iload_n 2, 1) := by decide +kernel
theorem dc_M_isBefore_29 : decode prog_14_method_11_code 29 = .ok (.iaload, 1) := by decide +kernel
theorem dc_M_isBefore_30 : decode prog_14_method_11_code 30 = .ok (.istore_n 3, 1) := by decide +kernel
theorem dc_M_isBefore_31 : decode prog_14_method_11_code 31 = .ok (.iconst 0, 1) := by decide +kernel
theorem dc_M_isBefore_32 : decode prog_14_method_11_code 32 = .ok (.istore 4, 2) := by decide +kernel
theorem dc_M_isBefore_34 : decode prog_14_method_11_code 34 = .ok (.iload 4, 2) := by decide +kernel
theorem dc_M_isBefore_36 : decode prog_14_method_11_code 36 = .ok (.iload_n 3, 1) := by decide +kernel
theorem dc_M_isBefore_37 : decode prog_14_method_11_code 37 = .ok (.if_icmp .ge 40, 3) := by decide +kernel
theorem dc_M_isBefore_40 : decode prog_14_method_11_code 40 = .ok (.aload_n 0, 1) := by decide +kernel
theorem dc_M_isBefore_41 : decode prog_14_method_11_code 41 = .ok (.getfield 41, 3) := by decide +kernel
theorem dc_M_isBefore_44 : decode prog_14_method_11_code 44 = .ok (.aload_n 0, 1) := by decide +kernel
theorem dc_M_isBefore_45 : decode prog_14_method_11_code 45 = .ok (.getfield 31, 3) := by decide +kernel
theorem dc_M_isBefore_48 : decode prog_14_method_11_code 48 = .ok (.iload_n 1, 1) := by decide +kernel
theorem dc_M_isBefore_49 : decode prog_14_method_11_code 49 = .ok (.iaload, 1) := by decide +kernel
theorem dc_M_isBefore_50 : decode prog_14_method_11_code 50 = .ok (.iload 4, 2) := by decide +kernel
theorem dc_M_isBefore_52 : decode prog_14_method_11_code 52 = .ok (.iadd, 1) := by decide +kernel
theorem dc_M_isBefore_53 : decode prog_14_method_11_code 53 = .ok (.baload, 1) := by decide +kernel
theorem dc_M_isBefore_54 : decode prog_14_method_11_code 54 = .ok (.aload_n 0, 1) := by decide +kernel
theorem dc_M_isBefore_55 : decode prog_14_method_11_code 55 = .ok (.getfield 41, 3) := by decide +kernel
theorem dc_M_isBefore_58 : decode prog_14_method_11_code 58 = .ok (.aload_n 0, 1) := by decide +kernel
theorem dc_M_isBefore_59 : decode prog_14_method_11_code 59 = .ok (.getfield 31, 3) := by decide +kernel
theorem dc_M_isBefore_62 : decode prog_14_method_11_code 62 = .ok (.iload_n 2, 1) := by decide +kernel
theorem dc_M_isBefore_63 : decode prog_14_method_11_code 63 = .ok (.iaload, 1) := by decide +kernel
theorem dc_M_isBefore_64 : decode prog_14_method_11_code 64 = .ok (.iload 4, 2) := by decide +kernel
theorem dc_M_isBefore_66 : decode prog_14_method_11_code 66 = .ok (.iadd, 1) := by decide +kernel
theorem dc_M_isBefore_67 : decode prog_14_method_11_code 67 = .ok (.baload, 1) := by decide +kernel
theorem dc_M_isBefore_68 : decode prog_14_method_11_code 68 = .ok (.if_icmp .ne 9, 3) := by decide +kernel
theorem dc_M_isBefore_71 : decode prog_14_method_11_code 71 = .ok (.iinc 4 1, 3) := by decide +kernel
theorem dc_M_isBefore_74 : decode prog_14_method_11_code 74 = .ok (.goto (-40), 3) := by decide +kernel
theorem dc_M_isBefore_77 : decode prog_14_method_11_code 77 = .ok (.iload 4, 2) := by decide +kernel
theorem dc_M_isBefore_79 : decode prog_14_method_11_code 79 = .ok (.iload_n 3, 1) := by decide +kernel
theorem dc_M_isBefore_80 : decode prog_14_method_11_code 80 = .ok (.if_icmp .ge 42, 3) := by decide +kernel
theorem dc_M_isBefore_83 : decode prog_14_method_11_code 83 = .ok (.aload_n 0, 1) := by decide +kernel
theorem dc_M_isBefore_84 : decode prog_14_method_11_code 84 = .ok (.getfield 41, 3) := by decide +kernel
theorem dc_M_isBefore_87 : decode prog_14_method_11_code 87 = .ok (.aload_n 0, 1) := by decide +kernel
theorem dc_M_isBefore_88 : decode prog_14_method_11_code 88 = .ok (.getfield 31, 3) := by decide +kernel
theorem dc_M_isBefore_91 : decode prog_14_method_11_code 91 = .ok (.iload_n 1, 1) := by decide +kernel
theorem dc_M_isBefore_92 : decode prog_14_method_11_code 92 = .ok (.iaload, 1) := by decide +kernel
theorem dc_M_isBefore_93 : decode prog_14_method_11_code 93 = .ok (.iload 4, 2) := by decide +kernel
theorem dc_M_isBefore_95 : decode prog_14_method_11_code 95 = .ok (.iadd, 1) := by decide +kernel
theorem dc_M_isBefore_96 : decode prog_14_method_11_code 96 = .ok (.baload, 1) := by decide +kernel
theorem dc_M_isBefore_97 : decode prog_14_method_11_code 97 = .ok (.aload_n 0, 1) := by decide +kernel
theorem dc_M_isBefore_98 : decode prog_14_method_11_code 98 = .ok (.getfield 41, 3) := by decide +kernel
theorem dc_M_isBefore_101 : decode prog_14_method_11_code 101 = .ok (.aload_n 0, 1) := by decide +kernel
theorem dc_M_isBefore_102 : decode prog_14_method_11_code 102 = .ok (.getfield 31, 3) := by decide +kernel
theorem dc_M_isBefore_105 : decode prog_14_method_11_code 105 = .ok (.iload_n 2, 1) := by decide +kernel
theorem dc_M_isBefore_106 : decode prog_14_method_11_code 106 = .ok (.iaload, 1) := by decide +kernel
theorem dc_M_isBefore_107 : decode prog_14_method_11_code 107 = .ok (.iload 4, 2) := by decide +kernel
theorem dc_M_isBefore_109 : decode prog_14_method_11_code 109 = .ok (.iadd, 1) := by decide +kernel
theorem dc_M_isBefore_110 : decode prog_14_method_11_code 110 = .ok (.baload, 1) := by decide +kernel
theorem dc_M_isBefore_111 : decode prog_14_method_11_code 111 = .ok (.if_icmp .ge 7, 3) := by decide +kernel
theorem dc_M_isBefore_114 : decode prog_14_method_11_code 114 = .ok (.iconst 1, 1) := by decide +kernel
theorem dc_M_isBefore_115 : decode prog_14_method_11_code 115 = .ok (.goto 27, 3) := by decide +kernel
theorem dc_M_isBefore_118 : decode prog_14_method_11_code 118 = .ok (.iconst 0, 1) := by decide +kernel
theorem dc_M_isBefore_119 : decode prog_14_method_11_code 119 = .ok (.goto 23, 3) := by decide +kernel
theorem dc_M_isBefore_122 : decode prog_14_method_11_code 122 = .ok (.aload_n 0, 1) := by decide +kernel
theorem dc_M_isBefore_123 : decode prog_14_method_11_code 123 = .ok (.getfield 35, 3) := by decide +kernel
theorem dc_M_isBefore_126 : decode prog_14_method_11_code 126 = .ok (.iload_n 1, 1) := by decide +kernel
theorem dc_M_isBefore_127 : decode prog_14_method_11_code 127 = .ok (.iaload, 1) := by decide +kernel
theorem dc_M_isBefore_128 : decode prog_14_method_11_code 128 = .ok (.aload_n 0, 1) := by decide +kernel
theorem dc_M_isBefore_129 : decode prog_14_method_11_code 129 = .ok (.getfield 35, 3) := by decide +kernel
theorem dc_M_isBefore_132 : decode prog_14_method_11_code 132 = .ok (.iload_n 2, 1) := by decide +kernel
theorem dc_M_isBefore_133 : decode prog_14_method_11_code 133 = .ok (.iaload, 1) := by decide +kernel
theorem dc_M_isBefore_134 : decode prog_14_method_11_code 134 = .ok (.if_icmp .ge 7, 3) := by decide +kernel
theorem dc_M_isBefore_137 : decode prog_14_method_11_code 137 = .ok (.iconst 1, 1) := by decide +kernel
theorem dc_M_isBefore_138 : decode prog_14_method_11_code 138 = .ok (.goto 4, 3) := by decide +kernel
theorem dc_M_isBefore_141 : decode prog_14_method_11_code 141 = .ok (.iconst 0, 1) := by decide +kernel
theorem dc_M_isBefore_142 : decode prog_14_method_11_code 142 = .ok (.ireturn, 1) := by decide +kernel
theorem dc_M_connect_0 : decode prog_14_method_58_code 0 = .ok (.iconst 0, 1) := by decide +kernel
theorem dc_M_connect_1 : decode prog_14_method_58_code 1 = .ok (.istore_n 1, 1) := by decide +kernel
theorem dc_M_connect_2 : decode prog_14_method_58_code 2 = .ok (.iload_n 1, 1) := by decide +kernel
theorem dc_M_connect_3 : decode prog_14_method_58_code 3 = .ok (.aload_n 0, 1) := by decide +kernel
theorem dc_M_connect_4 : decode prog_14_method_58_code 4 = .ok (.getfield 467, 3) := by decide +kernel
theorem dc_M_connect_7 : decode prog_14_method_58_code 7 = .ok (.if_icmp .ge 113, 3) := by decide +kernel
theorem dc_M_connect_10 : decode prog_14_method_58_code 10 = .ok (.iconst 0, 1) := by decide +kernel
theorem dc_M_connect_11 : decode prog_14_method_58_code 11 = .ok (.istore_n 2, 1) := by decide +kernel
theorem dc_M_connect_12 : decode prog_14_method_58_code 12 = .ok (.iload_n 2, 1) := by decide +kernel
theorem dc_M_connect_13 : decode prog_14_method_58_code 13 = .ok (.aload_n 0, 1) := by decide +kernel
theorem dc_M_connect_14 : decode prog_14_method_58_code 14 = .ok (.getfield 467, 3) := by decide +kernel
theorem dc_M_connect_17 : decode prog_14_method_58_code 17 = .ok (.if_icmp .ge 22, 3) := by decide +kernel
theorem dc_M_connect_20 : decode prog_14_method_58_code 20 = .ok (.aload_n 0, 1) := by decide +kernel
theorem dc_M_connect_21 : decode prog_14_method_58_code 21 = .ok (.getfield 397, 3) := by decide +kernel
theorem fl_M_397 : am_fl "WebFinderModel" 397 12 83 := ⟨"WebFinderModel", tt_M, 90, rfl, by decide, Or.inl (am_t7 194 rfl rfl)⟩
theorem dc_M_connect_24 : decode prog_14_method_58_code 24 = .ok (.sipush 250, 3) := by decide +kernel
theorem dc_M_connect_27 : decode prog_14_method_58_code 27 = .ok (.iload_n 1, 1) := by decide +kernel
theorem dc_M_connect_28 : decode prog_14_method_58_code 28 = .ok (.imul, 1) := by decide +kernel
theorem dc_M_connect_29 : decode prog_14_method_58_code 29 = .ok (.iload_n 2, 1) := by decide +kernel
theorem dc_M_connect_30 : decode prog_14_method_58_code 30 = .ok (.iadd, 1) := by decide +kernel
theorem dc_M_connect_31 : decode prog_14_method_58_code 31 = .ok (.iconst 0, 1) := by decide +kernel
theorem dc_M_connect_32 : decode prog_14_method_58_code 32 = .ok (.bastore, 1) := by decide +kernel
theorem dc_M_connect_33 : decode prog_14_method_58_code 33 = .ok (.iinc 2 1, 3) := by decide +kernel
theorem dc_M_connect_36 : decode prog_14_method_58_code 36 = .ok (.goto (-24), 3) := by decide +kernel
theorem dc_M_connect_39 : decode prog_14_method_58_code 39 = .ok (.aload_n 0, 1) := by decide +kernel
theorem dc_M_connect_40 : decode prog_14_method_58_code 40 = .ok (.aload_n 0, 1) := by decide +kernel
theorem dc_M_connect_41 : decode prog_14_method_58_code 41 = .ok (.getfield 377, 3) := by decide +kernel
theorem dc_M_connect_44 : decode prog_14_method_58_code 44 = .ok (.iload_n 1, 1) := by decide +kernel
theorem dc_M_connect_45 : decode prog_14_method_58_code 45 = .ok (.iaload, 1) := by decide +kernel
theorem dc_M_connect_46 : decode prog_14_method_58_code 46 = .ok (.aload_n 0, 1) := by decide +kernel
theorem dc_M_connect_47 : decode prog_14_method_58_code 47 = .ok (.getfield 374, 3) := by decide +kernel
theorem dc_M_connect_50 : decode prog_14_method_58_code 50 = .ok (.iload_n 1, 1) := by decide +kernel
theorem dc_M_connect_51 : decode prog_14_method_58_code 51 = .ok (.iaload, 1) := by decide +kernel
theorem dc_M_connect_52 : decode prog_14_method_58_code 52 = .ok (.invokevirtual 449, 3) := by decide +kernel
theorem dc_M_connect_55 : decode prog_14_method_58_code 55 = .ok (.aload_n 0, 1) := by decide +kernel
theorem dc_M_connect_56 : decode prog_14_method_58_code 56 = .ok (.getfield 386, 3) := by decide +kernel
theorem fl_M_386 : am_fl "WebFinderModel" 386 12 80 := ⟨"WebFinderModel", tt_M, 90, rfl, by decide, Or.inl (am_t7 191 rfl rfl)⟩
theorem dc_M_connect_59 : decode prog_14_method_58_code 59 = .ok (.iload_n 1, 1) := by decide +kernel
theorem dc_M_connect_60 : decode prog_14_method_58_code 60 = .ok (.aload_n 0, 1) := by decide +kernel
theorem dc_M_connect_61 : decode prog_14_method_58_code 61 = .ok (.getfield 223, 3) := by decide +kernel
theorem dc_M_connect_64 : decode prog_14_method_58_code 64 = .ok (.iastore, 1) := by decide +kernel
theorem dc_M_connect_65 : decode prog_14_method_58_code 65 = .ok (.iconst 0, 1) := by decide +kernel
theorem dc_M_connect_66 : decode prog_14_method_58_code 66 = .ok (.istore_n 2, 1) := by decide +kernel
theorem dc_M_connect_67 : decode prog_14_method_58_code 67 = .ok (.iload_n 2, 1) := by decide +kernel
theorem dc_M_connect_68 : decode prog_14_method_58_code 68 = .ok (.aload_n 0, 1) := by decide +kernel
theorem dc_M_connect_69 : decode prog_14_method_58_code 69 = .ok (.getfield 322, 3) := by decide +kernel
theorem dc_M_connect_72 : decode prog_14_method_58_code 72 = .ok (.if_icmp .ge 42, 3) := by decide +kernel
theorem dc_M_connect_75 : decode prog_14_method_58_code 75 = .ok (.aload_n 0, 1) := by decide +kernel
theorem dc_M_connect_76 : decode prog_14_method_58_code 76 = .ok (.aload_n 0, 1) := by decide +kernel
theorem dc_M_connect_77 : decode prog_14_method_58_code 77 = .ok (.getfield 328, 3) := by decide +kernel
theorem dc_M_connect_80 : decode prog_14_method_58_code 80 = .ok (.iload_n 2, 1) := by decide +kernel
theorem dc_M_connect_81 : decode prog_14_method_58_code 81 = .ok (.iaload, 1) := by decide +kernel
theorem dc_M_connect_82 : decode prog_14_method_58_code 82 = .ok (.invokevirtual 473, 3) := by decide +kernel
theorem mo_M_comesTo : am_mo mt_M_comesTo 1 := ⟨⟨by decide +kernel, by decide +kernel⟩, by decide +kernel, ⟨by decide +kernel, by decide +kernel⟩, (am_t10 6 rfl rfl), (am_t1 11 rfl rfl), by decide +kernel⟩
theorem im_M_comesTo : Cond.instanceMethod mt_M_comesTo.1 ∈ am_gw := (am_t10 5 rfl rfl)
theorem se_M_comesTo : Cond.selects mt_M_comesTo.1.cls mt_M_comesTo.1 mt_M_comesTo.1 ∈ am_gw := am_in (List.mem_append_left _ (by decide +kernel)) rfl
theorem ln_M_473 : am_ln "WebFinderModel" 473 mt_M_comesTo.1 := Or.inl (am_t10 3 rfl rfl)
theorem dc_M_connect_85 : decode prog_14_method_58_code 85 = .ok (.istore_n 3, 1) := by decide +kernel
theorem dc_M_connect_86 : decode prog_14_method_58_code 86 = .ok (.iload_n 3, 1) := by decide +kernel
theorem dc_M_connect_87 : decode prog_14_method_58_code 87 = .ok (.ifCond .lt 21, 3) := by decide +kernel
theorem dc_M_connect_90 : decode prog_14_method_58_code 90 = .ok (.iload_n 3, 1) := by decide +kernel
theorem dc_M_connect_91 : decode prog_14_method_58_code 91 = .ok (.iload_n 1, 1) := by decide +kernel
theorem dc_M_connect_92 : decode prog_14_method_58_code 92 = .ok (.if_icmp .eq 16, 3) := by decide +kernel
theorem dc_M_connect_95 : decode prog_14_method_58_code 95 = .ok (.aload_n 0, 1) := by decide +kernel
theorem dc_M_connect_96 : decode prog_14_method_58_code 96 = .ok (.getfield 397, 3) := by decide +kernel
theorem dc_M_connect_99 : decode prog_14_method_58_code 99 = .ok (.sipush 250, 3) := by decide +kernel
theorem dc_M_connect_102 : decode prog_14_method_58_code 102 = .ok (.iload_n 1, 1) := by decide +kernel
theorem dc_M_connect_103 : decode prog_14_method_58_code 103 = .ok (.imul, 1) := by decide +kernel
theorem dc_M_connect_104 : decode prog_14_method_58_code 104 = .ok (.iload_n 3, 1) := by decide +kernel
theorem dc_M_connect_105 : decode prog_14_method_58_code 105 = .ok (.iadd, 1) := by decide +kernel
theorem dc_M_connect_106 : decode prog_14_method_58_code 106 = .ok (.iconst 1, 1) := by decide +kernel
theorem dc_M_connect_107 : decode prog_14_method_58_code 107 = .ok (.bastore, 1) := by decide +kernel
theorem dc_M_connect_108 : decode prog_14_method_58_code 108 = .ok (.iinc 2 1, 3) := by decide +kernel
theorem dc_M_connect_111 : decode prog_14_method_58_code 111 = .ok (.goto (-44), 3) := by decide +kernel
theorem dc_M_connect_114 : decode prog_14_method_58_code 114 = .ok (.iinc 1 1, 3) := by decide +kernel
theorem dc_M_connect_117 : decode prog_14_method_58_code 117 = .ok (.goto (-115), 3) := by decide +kernel
theorem dc_M_connect_120 : decode prog_14_method_58_code 120 = .ok (.return_, 1) := by decide +kernel
theorem dc_M_comesTo_0 : decode prog_14_method_56_code 0 = .ok (.aload_n 0, 1) := by decide +kernel
theorem dc_M_comesTo_1 : decode prog_14_method_56_code 1 = .ok (.iload_n 1, 1) := by decide +kernel
theorem dc_M_comesTo_2 : decode prog_14_method_56_code 2 = .ok (.invokevirtual 418, 3) := by decide +kernel
theorem dc_M_comesTo_5 : decode prog_14_method_56_code 5 = .ok (.istore_n 2, 1) := by decide +kernel
theorem dc_M_comesTo_6 : decode prog_14_method_56_code 6 = .ok (.iconst 0, 1) := by decide +kernel
theorem dc_M_comesTo_7 : decode prog_14_method_56_code 7 = .ok (.istore_n 3, 1) := by decide +kernel
theorem dc_M_comesTo_8 : decode prog_14_method_56_code 8 = .ok (.iload_n 3, 1) := by decide +kernel
theorem dc_M_comesTo_9 : decode prog_14_method_56_code 9 = .ok (.bipush 20, 2) := by decide +kernel
theorem dc_M_comesTo_11 : decode prog_14_method_56_code 11 = .ok (.if_icmp .ge 34, 3) := by decide +kernel
theorem dc_M_comesTo_14 : decode prog_14_method_56_code 14 = .ok (.iload_n 2, 1) := by decide +kernel
theorem dc_M_comesTo_15 : decode prog_14_method_56_code 15 = .ok (.ifCond .lt 30, 3) := by decide +kernel
theorem dc_M_comesTo_18 : decode prog_14_method_56_code 18 = .ok (.aload_n 0, 1) := by decide +kernel
theorem dc_M_comesTo_19 : decode prog_14_method_56_code 19 = .ok (.iload_n 2, 1) := by decide +kernel
theorem dc_M_comesTo_20 : decode prog_14_method_56_code 20 = .ok (.iconst 1, 1) := by decide +kernel
theorem dc_M_comesTo_21 : decode prog_14_method_56_code 21 = .ok (.invokevirtual 415, 3) := by decide +kernel
theorem dc_M_comesTo_24 : decode prog_14_method_56_code 24 = .ok (.iconst 3, 1) := by decide +kernel
theorem dc_M_comesTo_25 : decode prog_14_method_56_code 25 = .ok (.if_icmp .ne 20, 3) := by decide +kernel
theorem dc_M_comesTo_28 : decode prog_14_method_56_code 28 = .ok (.aload_n 0, 1) := by decide +kernel
theorem dc_M_comesTo_29 : decode prog_14_method_56_code 29 = .ok (.aload_n 0, 1) := by decide +kernel
theorem dc_M_comesTo_30 : decode prog_14_method_56_code 30 = .ok (.iload_n 2, 1) := by decide +kernel
theorem dc_M_comesTo_31 : decode prog_14_method_56_code 31 = .ok (.iconst 4, 1) := by decide +kernel
theorem dc_M_comesTo_32 : decode prog_14_method_56_code 32 = .ok (.invokevirtual 415, 3) := by decide +kernel
theorem dc_M_comesTo_35 : decode prog_14_method_56_code 35 = .ok (.invokevirtual 418, 3) := by decide +kernel
theorem dc_M_comesTo_38 : decode prog_14_method_56_code 38 = .ok (.istore_n 2, 1) := by decide +kernel
theorem dc_M_comesTo_39 : decode prog_14_method_56_code 39 = .ok (.iinc 3 1, 3) := by decide +kernel
theorem dc_M_comesTo_42 : decode prog_14_method_56_code 42 = .ok (.goto (-34), 3) := by decide +kernel
theorem dc_M_comesTo_45 : decode prog_14_method_56_code 45 = .ok (.iload_n 2, 1) := by decide +kernel
theorem dc_M_comesTo_46 : decode prog_14_method_56_code 46 = .ok (.ifCond .lt 13, 3) := by decide +kernel
theorem dc_M_comesTo_49 : decode prog_14_method_56_code 49 = .ok (.aload_n 0, 1) := by decide +kernel
theorem dc_M_comesTo_50 : decode prog_14_method_56_code 50 = .ok (.iload_n 2, 1) := by decide +kernel
theorem dc_M_comesTo_51 : decode prog_14_method_56_code 51 = .ok (.iconst 1, 1) := by decide +kernel
theorem dc_M_comesTo_52 : decode prog_14_method_56_code 52 = .ok (.invokevirtual 415, 3) := by decide +kernel
theorem dc_M_comesTo_55 : decode prog_14_method_56_code 55 = .ok (.iconst 2, 1) := by decide +kernel
theorem dc_M_comesTo_56 : decode prog_14_method_56_code 56 = .ok (.if_icmp .eq 5, 3) := by decide +kernel
theorem dc_M_comesTo_59 : decode prog_14_method_56_code 59 = .ok (.iconst (-1), 1) := by decide +kernel
theorem dc_M_comesTo_60 : decode prog_14_method_56_code 60 = .ok (.ireturn, 1) := by decide +kernel
theorem dc_M_comesTo_61 : decode prog_14_method_56_code 61 = .ok (.iconst (-1), 1) := by decide +kernel
theorem dc_M_comesTo_62 : decode prog_14_method_56_code 62 = .ok (.istore_n 3, 1) := by decide +kernel
theorem dc_M_comesTo_63 : decode prog_14_method_56_code 63 = .ok (.iconst 0, 1) := by decide +kernel
theorem dc_M_comesTo_64 : decode prog_14_method_56_code 64 = .ok (.istore 4, 2) := by decide +kernel
theorem dc_M_comesTo_66 : decode prog_14_method_56_code 66 = .ok (.iload 4, 2) := by decide +kernel
theorem dc_M_comesTo_68 : decode prog_14_method_56_code 68 = .ok (.aload_n 0, 1) := by decide +kernel
theorem dc_M_comesTo_69 : decode prog_14_method_56_code 69 = .ok (.getfield 467, 3) := by decide +kernel
theorem dc_M_comesTo_72 : decode prog_14_method_56_code 72 = .ok (.if_icmp .ge 36, 3) := by decide +kernel
theorem dc_M_comesTo_75 : decode prog_14_method_56_code 75 = .ok (.aload_n 0, 1) := by decide +kernel
theorem dc_M_comesTo_76 : decode prog_14_method_56_code 76 = .ok (.aload_n 0, 1) := by decide +kernel
theorem dc_M_comesTo_77 : decode prog_14_method_56_code 77 = .ok (.getfield 377, 3) := by decide +kernel
theorem dc_M_comesTo_80 : decode prog_14_method_56_code 80 = .ok (.iload 4, 2) := by decide +kernel
theorem dc_M_comesTo_82 : decode prog_14_method_56_code 82 = .ok (.iaload, 1) := by decide +kernel
theorem dc_M_comesTo_83 : decode prog_14_method_56_code 83 = .ok (.aload_n 0, 1) := by decide +kernel
theorem dc_M_comesTo_84 : decode prog_14_method_56_code 84 = .ok (.iload_n 2, 1) := by decide +kernel
theorem dc_M_comesTo_85 : decode prog_14_method_56_code 85 = .ok (.iconst 5, 1) := by decide +kernel
theorem dc_M_comesTo_86 : decode prog_14_method_56_code 86 = .ok (.invokevirtual 415, 3) := by decide +kernel
theorem dc_M_comesTo_89 : decode prog_14_method_56_code 89 = .ok (.invokevirtual 461, 3) := by decide +kernel
theorem dc_M_comesTo_92 : decode prog_14_method_56_code 92 = .ok (.ifCond .eq 8, 3) := by decide +kernel
theorem dc_M_comesTo_95 : decode prog_14_method_56_code 95 = .ok (.iload 4, 2) := by decide +kernel
theorem dc_M_comesTo_97 : decode prog_14_method_56_code 97 = .ok (.goto 4, 3) := by decide +kernel
theorem dc_M_comesTo_100 : decode prog_14_method_56_code 100 = .ok (.iload_n 3, 1) := by decide +kernel
theorem dc_M_comesTo_101 : decode prog_14_method_56_code 101 = .ok (.istore_n 3, 1) := by decide +kernel
theorem dc_M_comesTo_102 : decode prog_14_method_56_code 102 = .ok (.iinc 4 1, 3) := by decide +kernel
theorem dc_M_comesTo_105 : decode prog_14_method_56_code 105 = .ok (.goto (-39), 3) := by decide +kernel
theorem dc_M_comesTo_108 : decode prog_14_method_56_code 108 = .ok (.iload_n 3, 1) := by decide +kernel
theorem dc_M_comesTo_109 : decode prog_14_method_56_code 109 = .ok (.ireturn, 1) := by decide +kernel
theorem dc_M_rank_0 : decode prog_14_method_61_code 0 = .ok (.iconst 0, 1) := by decide +kernel
theorem dc_M_rank_1 : decode prog_14_method_61_code 1 = .ok (.istore_n 2, 1) := by decide +kernel
theorem dc_M_rank_2 : decode prog_14_method_61_code 2 = .ok (.iload_n 2, 1) := by decide +kernel
theorem dc_M_rank_3 : decode prog_14_method_61_code 3 = .ok (.aload_n 0, 1) := by decide +kernel
theorem dc_M_rank_4 : decode prog_14_method_61_code 4 = .ok (.getfield 467, 3) := by decide +kernel
theorem dc_M_rank_7 : decode prog_14_method_61_code 7 = .ok (.if_icmp .ge 24, 3) := by decide +kernel
theorem dc_M_rank_10 : decode prog_14_method_61_code 10 = .ok (.aload_n 0, 1) := by decide +kernel
theorem dc_M_rank_11 : decode prog_14_method_61_code 11 = .ok (.getfield 389, 3) := by decide +kernel
theorem fl_M_389 : am_fl "WebFinderModel" 389 12 81 := ⟨"WebFinderModel", tt_M, 90, rfl, by decide, Or.inl (am_t7 192 rfl rfl)⟩
theorem dc_M_rank_14 : decode prog_14_method_61_code 14 = .ok (.iload_n 2, 1) := by decide +kernel
theorem dc_M_rank_15 : decode prog_14_method_61_code 15 = .ok (.ldc2_w 476, 3) := by decide +kernel
theorem cl_M_476 : Cond.constantLong "WebFinderModel" 476 (1000000) ∈ am_gw := (am_t10 11 rfl rfl)
theorem dc_M_rank_18 : decode prog_14_method_61_code 18 = .ok (.aload_n 0, 1) := by decide +kernel
theorem dc_M_rank_19 : decode prog_14_method_61_code 19 = .ok (.getfield 467, 3) := by decide +kernel
theorem dc_M_rank_22 : decode prog_14_method_61_code 22 = .ok (.i2l, 1) := by decide +kernel
theorem dc_M_rank_23 : decode prog_14_method_61_code 23 = .ok (.ldiv, 1) := by decide +kernel
theorem dc_M_rank_24 : decode prog_14_method_61_code 24 = .ok (.lastore, 1) := by decide +kernel
theorem dc_M_rank_25 : decode prog_14_method_61_code 25 = .ok (.iinc 2 1, 3) := by decide +kernel
theorem dc_M_rank_28 : decode prog_14_method_61_code 28 = .ok (.goto (-26), 3) := by decide +kernel
theorem dc_M_rank_31 : decode prog_14_method_61_code 31 = .ok (.iconst 0, 1) := by decide +kernel
theorem dc_M_rank_32 : decode prog_14_method_61_code 32 = .ok (.istore_n 2, 1) := by decide +kernel
theorem dc_M_rank_33 : decode prog_14_method_61_code 33 = .ok (.iload_n 2, 1) := by decide +kernel
theorem dc_M_rank_34 : decode prog_14_method_61_code 34 = .ok (.iload_n 1, 1) := by decide +kernel
theorem dc_M_rank_35 : decode prog_14_method_61_code 35 = .ok (.if_icmp .ge 157, 3) := by decide +kernel
theorem dc_M_rank_38 : decode prog_14_method_61_code 38 = .ok (.iconst 0, 1) := by decide +kernel
theorem dc_M_rank_39 : decode prog_14_method_61_code 39 = .ok (.istore_n 3, 1) := by decide +kernel
theorem dc_M_rank_40 : decode prog_14_method_61_code 40 = .ok (.iload_n 3, 1) := by decide +kernel
theorem dc_M_rank_41 : decode prog_14_method_61_code 41 = .ok (.aload_n 0, 1) := by decide +kernel
theorem dc_M_rank_42 : decode prog_14_method_61_code 42 = .ok (.getfield 467, 3) := by decide +kernel
theorem dc_M_rank_45 : decode prog_14_method_61_code 45 = .ok (.if_icmp .ge 24, 3) := by decide +kernel
theorem dc_M_rank_48 : decode prog_14_method_61_code 48 = .ok (.aload_n 0, 1) := by decide +kernel
theorem dc_M_rank_49 : decode prog_14_method_61_code 49 = .ok (.getfield 393, 3) := by decide +kernel
theorem fl_M_393 : am_fl "WebFinderModel" 393 12 82 := ⟨"WebFinderModel", tt_M, 90, rfl, by decide, Or.inl (am_t7 193 rfl rfl)⟩
theorem dc_M_rank_52 : decode prog_14_method_61_code 52 = .ok (.iload_n 3, 1) := by decide +kernel
theorem dc_M_rank_53 : decode prog_14_method_61_code 53 = .ok (.ldc2_w 478, 3) := by decide +kernel
theorem cl_M_478 : Cond.constantLong "WebFinderModel" 478 (150000) ∈ am_gw := (am_t10 12 rfl rfl)
theorem dc_M_rank_56 : decode prog_14_method_61_code 56 = .ok (.aload_n 0, 1) := by decide +kernel
theorem dc_M_rank_57 : decode prog_14_method_61_code 57 = .ok (.getfield 467, 3) := by decide +kernel
theorem dc_M_rank_60 : decode prog_14_method_61_code 60 = .ok (.i2l, 1) := by decide +kernel
theorem dc_M_rank_61 : decode prog_14_method_61_code 61 = .ok (.ldiv, 1) := by decide +kernel
theorem dc_M_rank_62 : decode prog_14_method_61_code 62 = .ok (.lastore, 1) := by decide +kernel
theorem dc_M_rank_63 : decode prog_14_method_61_code 63 = .ok (.iinc 3 1, 3) := by decide +kernel
theorem dc_M_rank_66 : decode prog_14_method_61_code 66 = .ok (.goto (-26), 3) := by decide +kernel
theorem dc_M_rank_69 : decode prog_14_method_61_code 69 = .ok (.iconst 0, 1) := by decide +kernel
theorem dc_M_rank_70 : decode prog_14_method_61_code 70 = .ok (.istore_n 3, 1) := by decide +kernel
theorem dc_M_rank_71 : decode prog_14_method_61_code 71 = .ok (.iload_n 3, 1) := by decide +kernel
theorem dc_M_rank_72 : decode prog_14_method_61_code 72 = .ok (.aload_n 0, 1) := by decide +kernel
theorem dc_M_rank_73 : decode prog_14_method_61_code 73 = .ok (.getfield 467, 3) := by decide +kernel
theorem dc_M_rank_76 : decode prog_14_method_61_code 76 = .ok (.if_icmp .ge 82, 3) := by decide +kernel
theorem dc_M_rank_79 : decode prog_14_method_61_code 79 = .ok (.aload_n 0, 1) := by decide +kernel
theorem dc_M_rank_80 : decode prog_14_method_61_code 80 = .ok (.iload_n 3, 1) := by decide +kernel
theorem dc_M_rank_81 : decode prog_14_method_61_code 81 = .ok (.invokevirtual 480, 3) := by decide +kernel
theorem mo_M_ways : am_mo mt_M_ways 1 := ⟨⟨by decide +kernel, by decide +kernel⟩, by decide +kernel, ⟨by decide +kernel, by decide +kernel⟩, (am_t10 16 rfl rfl), (am_t1 11 rfl rfl), by decide +kernel⟩
theorem im_M_ways : Cond.instanceMethod mt_M_ways.1 ∈ am_gw := (am_t10 15 rfl rfl)
theorem se_M_ways : Cond.selects mt_M_ways.1.cls mt_M_ways.1 mt_M_ways.1 ∈ am_gw := am_in (List.mem_append_left _ (by decide +kernel)) rfl
theorem ln_M_480 : am_ln "WebFinderModel" 480 mt_M_ways.1 := Or.inl (am_t10 13 rfl rfl)
theorem dc_M_rank_84 : decode prog_14_method_61_code 84 = .ok (.istore 4, 2) := by decide +kernel
theorem dc_M_rank_86 : decode prog_14_method_61_code 86 = .ok (.iconst 0, 1) := by decide +kernel
theorem dc_M_rank_87 : decode prog_14_method_61_code 87 = .ok (.istore 5, 2) := by decide +kernel
theorem dc_M_rank_89 : decode prog_14_method_61_code 89 = .ok (.iload 5, 2) := by decide +kernel
theorem dc_M_rank_91 : decode prog_14_method_61_code 91 = .ok (.aload_n 0, 1) := by decide +kernel
theorem dc_M_rank_92 : decode prog_14_method_61_code 92 = .ok (.getfield 467, 3) := by decide +kernel
theorem dc_M_rank_95 : decode prog_14_method_61_code 95 = .ok (.if_icmp .ge 57, 3) := by decide +kernel
theorem dc_M_rank_98 : decode prog_14_method_61_code 98 = .ok (.aload_n 0, 1) := by decide +kernel
theorem dc_M_rank_99 : decode prog_14_method_61_code 99 = .ok (.getfield 393, 3) := by decide +kernel
theorem dc_M_rank_102 : decode prog_14_method_61_code 102 = .ok (.iload 5, 2) := by decide +kernel
theorem dc_M_rank_104 : decode prog_14_method_61_code 104 = .ok (.dup2, 1) := by decide +kernel
theorem dc_M_rank_105 : decode prog_14_method_61_code 105 = .ok (.laload, 1) := by decide +kernel
theorem dc_M_rank_106 : decode prog_14_method_61_code 106 = .ok (.aload_n 0, 1) := by decide +kernel
theorem dc_M_rank_107 : decode prog_14_method_61_code 107 = .ok (.getfield 397, 3) := by decide +kernel
theorem dc_M_rank_110 : decode prog_14_method_61_code 110 = .ok (.sipush 250, 3) := by decide +kernel
theorem dc_M_rank_113 : decode prog_14_method_61_code 113 = .ok (.iload_n 3, 1) := by decide +kernel
theorem dc_M_rank_114 : decode prog_14_method_61_code 114 = .ok (.imul, 1) := by decide +kernel
theorem dc_M_rank_115 : decode prog_14_method_61_code 115 = .ok (.iload 5, 2) := by decide +kernel
theorem dc_M_rank_117 : decode prog_14_method_61_code 117 = .ok (.iadd, 1) := by decide +kernel
theorem dc_M_rank_118 : decode prog_14_method_61_code 118 = .ok (.baload, 1) := by decide +kernel
theorem dc_M_rank_119 : decode prog_14_method_61_code 119 = .ok (.ifCond .eq 24, 3) := by decide +kernel
theorem dc_M_rank_122 : decode prog_14_method_61_code 122 = .ok (.ldc2_w 483, 3) := by decide +kernel
theorem cl_M_483 : Cond.constantLong "WebFinderModel" 483 (85) ∈ am_gw := (am_t10 17 rfl rfl)
theorem dc_M_rank_125 : decode prog_14_method_61_code 125 = .ok (.aload_n 0, 1) := by decide +kernel
theorem dc_M_rank_126 : decode prog_14_method_61_code 126 = .ok (.getfield 389, 3) := by decide +kernel
theorem dc_M_rank_129 : decode prog_14_method_61_code 129 = .ok (.iload_n 3, 1) := by decide +kernel
theorem dc_M_rank_130 : decode prog_14_method_61_code 130 = .ok (.laload, 1) := by decide +kernel
theorem dc_M_rank_131 : decode prog_14_method_61_code 131 = .ok (.lmul, 1) := by decide +kernel
theorem dc_M_rank_132 : decode prog_14_method_61_code 132 = .ok (.ldc2_w 485, 3) := by decide +kernel
theorem cl_M_485 : Cond.constantLong "WebFinderModel" 485 (100) ∈ am_gw := (am_t10 18 rfl rfl)
theorem dc_M_rank_135 : decode prog_14_method_61_code 135 = .ok (.ldiv, 1) := by decide +kernel
theorem dc_M_rank_136 : decode prog_14_method_61_code 136 = .ok (.iload 4, 2) := by decide +kernel
theorem dc_M_rank_138 : decode prog_14_method_61_code 138 = .ok (.i2l, 1) := by decide +kernel
theorem dc_M_rank_139 : decode prog_14_method_61_code 139 = .ok (.ldiv, 1) := by decide +kernel
theorem dc_M_rank_140 : decode prog_14_method_61_code 140 = .ok (.goto 4, 3) := by decide +kernel
theorem dc_M_rank_143 : decode prog_14_method_61_code 143 = .ok (.lconst 0, 1) := by decide +kernel
theorem dc_M_rank_144 : decode prog_14_method_61_code 144 = .ok (.ladd, 1) := by decide +kernel
theorem dc_M_rank_145 : decode prog_14_method_61_code 145 = .ok (.lastore, 1) := by decide +kernel
theorem dc_M_rank_146 : decode prog_14_method_61_code 146 = .ok (.iinc 5 1, 3) := by decide +kernel
theorem dc_M_rank_149 : decode prog_14_method_61_code 149 = .ok (.goto (-60), 3) := by decide +kernel
theorem dc_M_rank_152 : decode prog_14_method_61_code 152 = .ok (.iinc 3 1, 3) := by decide +kernel
theorem dc_M_rank_155 : decode prog_14_method_61_code 155 = .ok (.goto (-84), 3) := by decide +kernel
theorem dc_M_rank_158 : decode prog_14_method_61_code 158 = .ok (.iconst 0, 1) := by decide +kernel
theorem dc_M_rank_159 : decode prog_14_method_61_code 159 = .ok (.istore_n 3, 1) := by decide +kernel
theorem dc_M_rank_160 : decode prog_14_method_61_code 160 = .ok (.iload_n 3, 1) := by decide +kernel
theorem dc_M_rank_161 : decode prog_14_method_61_code 161 = .ok (.aload_n 0, 1) := by decide +kernel
theorem dc_M_rank_162 : decode prog_14_method_61_code 162 = .ok (.getfield 467, 3) := by decide +kernel
theorem dc_M_rank_165 : decode prog_14_method_61_code 165 = .ok (.if_icmp .ge 21, 3) := by decide +kernel
theorem dc_M_rank_168 : decode prog_14_method_61_code 168 = .ok (.aload_n 0, 1) := by decide +kernel
theorem dc_M_rank_169 : decode prog_14_method_61_code 169 = .ok (.getfield 389, 3) := by decide +kernel
theorem dc_M_rank_172 : decode prog_14_method_61_code 172 = .ok (.iload_n 3, 1) := by decide +kernel
theorem dc_M_rank_173 : decode prog_14_method_61_code 173 = .ok (.aload_n 0, 1) := by decide +kernel
theorem dc_M_rank_174 : decode prog_14_method_61_code 174 = .ok (.getfield 393, 3) := by decide +kernel
theorem dc_M_rank_177 : decode prog_14_method_61_code 177 = .ok (.iload_n 3, 1) := by decide +kernel
theorem dc_M_rank_178 : decode prog_14_method_61_code 178 = .ok (.laload, 1) := by decide +kernel
theorem dc_M_rank_179 : decode prog_14_method_61_code 179 = .ok (.lastore, 1) := by decide +kernel
theorem dc_M_rank_180 : decode prog_14_method_61_code 180 = .ok (.iinc 3 1, 3) := by decide +kernel
theorem dc_M_rank_183 : decode prog_14_method_61_code 183 = .ok (.goto (-23), 3) := by decide +kernel
theorem dc_M_rank_186 : decode prog_14_method_61_code 186 = .ok (.iinc 2 1, 3) := by decide +kernel
theorem dc_M_rank_189 : decode prog_14_method_61_code 189 = .ok (.goto (-156), 3) := by decide +kernel
theorem dc_M_rank_192 : decode prog_14_method_61_code 192 = .ok (.return_, 1) := by decide +kernel
theorem dc_M_ways_0 : decode prog_14_method_59_code 0 = .ok (.iconst 0, 1) := by decide +kernel
theorem dc_M_ways_1 : decode prog_14_method_59_code 1 = .ok (.istore_n 2, 1) := by decide +kernel
theorem dc_M_ways_2 : decode prog_14_method_59_code 2 = .ok (.iconst 0, 1) := by decide +kernel
theorem dc_M_ways_3 : decode prog_14_method_59_code 3 = .ok (.istore_n 3, 1) := by decide +kernel
theorem dc_M_ways_4 : decode prog_14_method_59_code 4 = .ok (.iload_n 3, 1) := by decide +kernel
theorem dc_M_ways_5 : decode prog_14_method_59_code 5 = .ok (.aload_n 0, 1) := by decide +kernel
theorem dc_M_ways_6 : decode prog_14_method_59_code 6 = .ok (.getfield 467, 3) := by decide +kernel
theorem dc_M_ways_9 : decode prog_14_method_59_code 9 = .ok (.if_icmp .ge 32, 3) := by decide +kernel
theorem dc_M_ways_12 : decode prog_14_method_59_code 12 = .ok (.aload_n 0, 1) := by decide +kernel
theorem dc_M_ways_13 : decode prog_14_method_59_code 13 = .ok (.getfield 397, 3) := by decide +kernel
theorem dc_M_ways_16 : decode prog_14_method_59_code 16 = .ok (.sipush 250, 3) := by decide +kernel
theorem dc_M_ways_19 : decode prog_14_method_59_code 19 = .ok (.iload_n 1, 1) := by decide +kernel
theorem dc_M_ways_20 : decode prog_14_method_59_code 20 = .ok (.imul, 1) := by decide +kernel
theorem dc_M_ways_21 : decode prog_14_method_59_code 21 = .ok (.iload_n 3, 1) := by decide +kernel
theorem dc_M_ways_22 : decode prog_14_method_59_code 22 = .ok (.iadd, 1) := by decide +kernel
theorem dc_M_ways_23 : decode prog_14_method_59_code 23 = .ok (.baload, 1) := by decide +kernel
theorem dc_M_ways_24 : decode prog_14_method_59_code 24 = .ok (.ifCond .eq 9, 3) := by decide +kernel
theorem dc_M_ways_27 : decode prog_14_method_59_code 27 = .ok (.iload_n 2, 1) := by decide +kernel
theorem dc_M_ways_28 : decode prog_14_method_59_code 28 = .ok (.iconst 1, 1) := by decide +kernel
theorem dc_M_ways_29 : decode prog_14_method_59_code 29 = .ok (.iadd, 1) := by decide +kernel
theorem dc_M_ways_30 : decode prog_14_method_59_code 30 = .ok (.goto 4, 3) := by decide +kernel
theorem dc_M_ways_33 : decode prog_14_method_59_code 33 = .ok (.iload_n 2, 1) := by decide +kernel
theorem dc_M_ways_34 : decode prog_14_method_59_code 34 = .ok (.istore_n 2, 1) := by decide +kernel
theorem dc_M_ways_35 : decode prog_14_method_59_code 35 = .ok (.iinc 3 1, 3) := by decide +kernel
theorem dc_M_ways_38 : decode prog_14_method_59_code 38 = .ok (.goto (-34), 3) := by decide +kernel
theorem dc_M_ways_41 : decode prog_14_method_59_code 41 = .ok (.iload_n 2, 1) := by decide +kernel
theorem dc_M_ways_42 : decode prog_14_method_59_code 42 = .ok (.ireturn, 1) := by decide +kernel
theorem dc_M_document_0 : decode prog_14_method_94_code 0 = .ok (.aload_n 0, 1) := by decide +kernel
theorem dc_M_document_1 : decode prog_14_method_94_code 1 = .ok (.iload_n 1, 1) := by decide +kernel
theorem dc_M_document_2 : decode prog_14_method_94_code 2 = .ok (.invokevirtual 550, 3) := by decide +kernel
theorem mo_M_isDocument : am_mo mt_M_isDocument 1 := ⟨⟨by decide +kernel, by decide +kernel⟩, by decide +kernel, ⟨by decide +kernel, by decide +kernel⟩, (am_t10 26 rfl rfl), (am_t1 11 rfl rfl), by decide +kernel⟩
theorem im_M_isDocument : Cond.instanceMethod mt_M_isDocument.1 ∈ am_gw := (am_t10 25 rfl rfl)
theorem se_M_isDocument : Cond.selects mt_M_isDocument.1.cls mt_M_isDocument.1 mt_M_isDocument.1 ∈ am_gw := am_in (List.mem_append_left _ (by decide +kernel)) rfl
theorem ln_M_550 : am_ln "WebFinderModel" 550 mt_M_isDocument.1 := Or.inl (am_t10 23 rfl rfl)
theorem dc_M_document_5 : decode prog_14_method_94_code 5 = .ok (.ifCond .eq 12, 3) := by decide +kernel
theorem dc_M_document_8 : decode prog_14_method_94_code 8 = .ok (.iload_n 2, 1) := by decide +kernel
theorem dc_M_document_9 : decode prog_14_method_94_code 9 = .ok (.ifCond .lt 8, 3) := by decide +kernel
theorem dc_M_document_12 : decode prog_14_method_94_code 12 = .ok (.iload_n 2, 1) := by decide +kernel
theorem dc_M_document_13 : decode prog_14_method_94_code 13 = .ok (.iconst 5, 1) := by decide +kernel
theorem dc_M_document_14 : decode prog_14_method_94_code 14 = .ok (.if_icmp .le 5, 3) := by decide +kernel
theorem dc_M_document_17 : decode prog_14_method_94_code 17 = .ok (.iconst (-1), 1) := by decide +kernel
theorem dc_M_document_18 : decode prog_14_method_94_code 18 = .ok (.ireturn, 1) := by decide +kernel
theorem dc_M_document_19 : decode prog_14_method_94_code 19 = .ok (.iload_n 2, 1) := by decide +kernel
theorem dc_M_document_20 : decode prog_14_method_94_code 20 = .ok (.tableswitch 70 0 4 #[36, 43, 51, 57, 63], 36) := by decide +kernel
theorem dc_M_document_56 : decode prog_14_method_94_code 56 = .ok (.aload_n 0, 1) := by decide +kernel
theorem dc_M_document_57 : decode prog_14_method_94_code 57 = .ok (.getfield 380, 3) := by decide +kernel
theorem dc_M_document_60 : decode prog_14_method_94_code 60 = .ok (.iload_n 1, 1) := by decide +kernel
theorem dc_M_document_61 : decode prog_14_method_94_code 61 = .ok (.iaload, 1) := by decide +kernel
theorem dc_M_document_62 : decode prog_14_method_94_code 62 = .ok (.ireturn, 1) := by decide +kernel
theorem dc_M_document_63 : decode prog_14_method_94_code 63 = .ok (.aload_n 0, 1) := by decide +kernel
theorem dc_M_document_64 : decode prog_14_method_94_code 64 = .ok (.getfield 389, 3) := by decide +kernel
theorem dc_M_document_67 : decode prog_14_method_94_code 67 = .ok (.iload_n 1, 1) := by decide +kernel
theorem dc_M_document_68 : decode prog_14_method_94_code 68 = .ok (.laload, 1) := by decide +kernel
theorem dc_M_document_69 : decode prog_14_method_94_code 69 = .ok (.l2i, 1) := by decide +kernel
theorem dc_M_document_70 : decode prog_14_method_94_code 70 = .ok (.ireturn, 1) := by decide +kernel
theorem dc_M_document_71 : decode prog_14_method_94_code 71 = .ok (.aload_n 0, 1) := by decide +kernel
theorem dc_M_document_72 : decode prog_14_method_94_code 72 = .ok (.iload_n 1, 1) := by decide +kernel
theorem dc_M_document_73 : decode prog_14_method_94_code 73 = .ok (.invokevirtual 480, 3) := by decide +kernel
theorem dc_M_document_76 : decode prog_14_method_94_code 76 = .ok (.ireturn, 1) := by decide +kernel
theorem dc_M_document_77 : decode prog_14_method_94_code 77 = .ok (.aload_n 0, 1) := by decide +kernel
theorem dc_M_document_78 : decode prog_14_method_94_code 78 = .ok (.iload_n 1, 1) := by decide +kernel
theorem dc_M_document_79 : decode prog_14_method_94_code 79 = .ok (.invokevirtual 553, 3) := by decide +kernel
theorem mo_M_waysTo : am_mo mt_M_waysTo 1 := ⟨⟨by decide +kernel, by decide +kernel⟩, by decide +kernel, ⟨by decide +kernel, by decide +kernel⟩, (am_t10 30 rfl rfl), (am_t1 11 rfl rfl), by decide +kernel⟩
theorem im_M_waysTo : Cond.instanceMethod mt_M_waysTo.1 ∈ am_gw := (am_t10 29 rfl rfl)
theorem se_M_waysTo : Cond.selects mt_M_waysTo.1.cls mt_M_waysTo.1 mt_M_waysTo.1 ∈ am_gw := am_in (List.mem_append_left _ (by decide +kernel)) rfl
theorem ln_M_553 : am_ln "WebFinderModel" 553 mt_M_waysTo.1 := Or.inl (am_t10 27 rfl rfl)
theorem dc_M_document_82 : decode prog_14_method_94_code 82 = .ok (.ireturn, 1) := by decide +kernel
theorem dc_M_document_83 : decode prog_14_method_94_code 83 = .ok (.aload_n 0, 1) := by decide +kernel
theorem dc_M_document_84 : decode prog_14_method_94_code 84 = .ok (.getfield 383, 3) := by decide +kernel
theorem dc_M_document_87 : decode prog_14_method_94_code 87 = .ok (.iload_n 1, 1) := by decide +kernel
theorem dc_M_document_88 : decode prog_14_method_94_code 88 = .ok (.iaload, 1) := by decide +kernel
theorem dc_M_document_89 : decode prog_14_method_94_code 89 = .ok (.ireturn, 1) := by decide +kernel
theorem dc_M_document_90 : decode prog_14_method_94_code 90 = .ok (.aload_n 0, 1) := by decide +kernel
theorem dc_M_document_91 : decode prog_14_method_94_code 91 = .ok (.getfield 386, 3) := by decide +kernel
theorem dc_M_document_94 : decode prog_14_method_94_code 94 = .ok (.iload_n 1, 1) := by decide +kernel
theorem dc_M_document_95 : decode prog_14_method_94_code 95 = .ok (.iaload, 1) := by decide +kernel
theorem dc_M_document_96 : decode prog_14_method_94_code 96 = .ok (.ireturn, 1) := by decide +kernel
theorem dc_M_isDocument_0 : decode prog_14_method_93_code 0 = .ok (.aload_n 0, 1) := by decide +kernel
theorem dc_M_isDocument_1 : decode prog_14_method_93_code 1 = .ok (.iconst 0, 1) := by decide +kernel
theorem dc_M_isDocument_2 : decode prog_14_method_93_code 2 = .ok (.putfield 1, 3) := by decide +kernel
theorem fp_M_isDocument_1 : am_fp mt_M_isDocument.1 1 12 2 (.int) := ⟨"WebFinderModel", tt_M, 90, rfl, by decide, ct_M 2 (by decide), Or.inl ⟨(am_t7 113 rfl rfl), Or.inl rfl⟩⟩
theorem dc_M_isDocument_5 : decode prog_14_method_93_code 5 = .ok (.iload_n 1, 1) := by decide +kernel
theorem dc_M_isDocument_6 : decode prog_14_method_93_code 6 = .ok (.ifCond .lt 15, 3) := by decide +kernel
theorem dc_M_isDocument_9 : decode prog_14_method_93_code 9 = .ok (.iload_n 1, 1) := by decide +kernel
theorem dc_M_isDocument_10 : decode prog_14_method_93_code 10 = .ok (.aload_n 0, 1) := by decide +kernel
theorem dc_M_isDocument_11 : decode prog_14_method_93_code 11 = .ok (.getfield 467, 3) := by decide +kernel
theorem dc_M_isDocument_14 : decode prog_14_method_93_code 14 = .ok (.if_icmp .ge 7, 3) := by decide +kernel
theorem dc_M_isDocument_17 : decode prog_14_method_93_code 17 = .ok (.iconst 1, 1) := by decide +kernel
theorem dc_M_isDocument_18 : decode prog_14_method_93_code 18 = .ok (.goto 4, 3) := by decide +kernel
theorem dc_M_isDocument_21 : decode prog_14_method_93_code 21 = .ok (.iconst 0, 1) := by decide +kernel
theorem dc_M_isDocument_22 : decode prog_14_method_93_code 22 = .ok (.ireturn, 1) := by decide +kernel
theorem dc_M_waysTo_0 : decode prog_14_method_60_code 0 = .ok (.iconst 0, 1) := by decide +kernel
theorem dc_M_waysTo_1 : decode prog_14_method_60_code 1 = .ok (.istore_n 2, 1) := by decide +kernel
theorem dc_M_waysTo_2 : decode prog_14_method_60_code 2 = .ok (.iconst 0, 1) := by decide +kernel
theorem dc_M_waysTo_3 : decode prog_14_method_60_code 3 = .ok (.istore_n 3, 1) := by decide +kernel
theorem dc_M_waysTo_4 : decode prog_14_method_60_code 4 = .ok (.iload_n 3, 1) := by decide +kernel
theorem dc_M_waysTo_5 : decode prog_14_method_60_code 5 = .ok (.aload_n 0, 1) := by decide +kernel
theorem dc_M_waysTo_6 : decode prog_14_method_60_code 6 = .ok (.getfield 467, 3) := by decide +kernel
theorem dc_M_waysTo_9 : decode prog_14_method_60_code 9 = .ok (.if_icmp .ge 32, 3) := by decide +kernel
theorem dc_M_waysTo_12 : decode prog_14_method_60_code 12 = .ok (.aload_n 0, 1) := by decide +kernel
theorem dc_M_waysTo_13 : decode prog_14_method_60_code 13 = .ok (.getfield 397, 3) := by decide +kernel
theorem dc_M_waysTo_16 : decode prog_14_method_60_code 16 = .ok (.sipush 250, 3) := by decide +kernel
theorem dc_M_waysTo_19 : decode prog_14_method_60_code 19 = .ok (.iload_n 3, 1) := by decide +kernel
theorem dc_M_waysTo_20 : decode prog_14_method_60_code 20 = .ok (.imul, 1) := by decide +kernel
theorem dc_M_waysTo_21 : decode prog_14_method_60_code 21 = .ok (.iload_n 1, 1) := by decide +kernel
theorem dc_M_waysTo_22 : decode prog_14_method_60_code 22 = .ok (.iadd, 1) := by decide +kernel
theorem dc_M_waysTo_23 : decode prog_14_method_60_code 23 = .ok (.baload, 1) := by decide +kernel
theorem dc_M_waysTo_24 : decode prog_14_method_60_code 24 = .ok (.ifCond .eq 9, 3) := by decide +kernel
theorem dc_M_waysTo_27 : decode prog_14_method_60_code 27 = .ok (.iload_n 2, 1) := by decide +kernel
theorem dc_M_waysTo_28 : decode prog_14_method_60_code 28 = .ok (.iconst 1, 1) := by decide +kernel
theorem dc_M_waysTo_29 : decode prog_14_method_60_code 29 = .ok (.iadd, 1) := by decide +kernel
theorem dc_M_waysTo_30 : decode prog_14_method_60_code 30 = .ok (.goto 4, 3) := by decide +kernel
theorem dc_M_waysTo_33 : decode prog_14_method_60_code 33 = .ok (.iload_n 2, 1) := by decide +kernel
theorem dc_M_waysTo_34 : decode prog_14_method_60_code 34 = .ok (.istore_n 2, 1) := by decide +kernel
theorem dc_M_waysTo_35 : decode prog_14_method_60_code 35 = .ok (.iinc 3 1, 3) := by decide +kernel
theorem dc_M_waysTo_38 : decode prog_14_method_60_code 38 = .ok (.goto (-34), 3) := by decide +kernel
theorem dc_M_waysTo_41 : decode prog_14_method_60_code 41 = .ok (.iload_n 2, 1) := by decide +kernel
theorem dc_M_waysTo_42 : decode prog_14_method_60_code 42 = .ok (.ireturn, 1) := by decide +kernel
theorem dc_M_where_0 : decode prog_14_method_95_code 0 = .ok (.aload_n 0, 1) := by decide +kernel
theorem dc_M_where_1 : decode prog_14_method_95_code 1 = .ok (.iload_n 1, 1) := by decide +kernel
theorem dc_M_where_2 : decode prog_14_method_95_code 2 = .ok (.invokevirtual 550, 3) := by decide +kernel
theorem dc_M_where_5 : decode prog_14_method_95_code 5 = .ok (.ifCond .eq 16, 3) := by decide +kernel
theorem dc_M_where_8 : decode prog_14_method_95_code 8 = .ok (.aload_n 0, 1) := by decide +kernel
theorem dc_M_where_9 : decode prog_14_method_95_code 9 = .ok (.aload_n 0, 1) := by decide +kernel
theorem dc_M_where_10 : decode prog_14_method_95_code 10 = .ok (.getfield 374, 3) := by decide +kernel
theorem dc_M_where_13 : decode prog_14_method_95_code 13 = .ok (.iload_n 1, 1) := by decide +kernel
theorem dc_M_where_14 : decode prog_14_method_95_code 14 = .ok (.iaload, 1) := by decide +kernel
theorem dc_M_where_15 : decode prog_14_method_95_code 15 = .ok (.invokevirtual 532, 3) := by decide +kernel
theorem dc_M_where_18 : decode prog_14_method_95_code 18 = .ok (.goto 4, 3) := by decide +kernel
theorem dc_M_where_21 : decode prog_14_method_95_code 21 = .ok (.iconst (-1), 1) := by decide +kernel
theorem dc_M_where_22 : decode prog_14_method_95_code 22 = .ok (.ireturn, 1) := by decide +kernel
theorem dc_M_ask_0 : decode prog_14_method_96_code 0 = .ok (.aload_n 0, 1) := by decide +kernel
theorem dc_M_ask_1 : decode prog_14_method_96_code 1 = .ok (.invokevirtual 505, 3) := by decide +kernel
theorem dc_M_ask_4 : decode prog_14_method_96_code 4 = .ok (.istore_n 2, 1) := by decide +kernel
theorem dc_M_ask_5 : decode prog_14_method_96_code 5 = .ok (.iload_n 1, 1) := by decide +kernel
theorem dc_M_ask_6 : decode prog_14_method_96_code 6 = .ok (.ifCond .lt 8, 3) := by decide +kernel
theorem dc_M_ask_9 : decode prog_14_method_96_code 9 = .ok (.iload_n 1, 1) := by decide +kernel
theorem dc_M_ask_10 : decode prog_14_method_96_code 10 = .ok (.iconst 2, 1) := by decide +kernel
theorem dc_M_ask_11 : decode prog_14_method_96_code 11 = .ok (.if_icmp .le 5, 3) := by decide +kernel
theorem dc_M_ask_14 : decode prog_14_method_96_code 14 = .ok (.iconst (-1), 1) := by decide +kernel
theorem dc_M_ask_15 : decode prog_14_method_96_code 15 = .ok (.ireturn, 1) := by decide +kernel
theorem dc_M_ask_16 : decode prog_14_method_96_code 16 = .ok (.aload_n 0, 1) := by decide +kernel
theorem dc_M_ask_17 : decode prog_14_method_96_code 17 = .ok (.iconst 0, 1) := by decide +kernel
theorem dc_M_ask_18 : decode prog_14_method_96_code 18 = .ok (.putfield 223, 3) := by decide +kernel
theorem fp_M_ask_223 : am_fp mt_M_ask.1 223 12 40 (.int) := ⟨"WebFinderModel", tt_M, 90, rfl, by decide, ct_M 40 (by decide), Or.inl ⟨(am_t7 151 rfl rfl), Or.inl rfl⟩⟩
theorem dc_M_ask_21 : decode prog_14_method_96_code 21 = .ok (.aload_n 0, 1) := by decide +kernel
theorem dc_M_ask_22 : decode prog_14_method_96_code 22 = .ok (.aload_n 0, 1) := by decide +kernel
theorem dc_M_ask_23 : decode prog_14_method_96_code 23 = .ok (.getfield 143, 3) := by decide +kernel
theorem dc_M_ask_26 : decode prog_14_method_96_code 26 = .ok (.iconst 0, 1) := by decide +kernel
theorem dc_M_ask_27 : decode prog_14_method_96_code 27 = .ok (.iload_n 2, 1) := by decide +kernel
theorem dc_M_ask_28 : decode prog_14_method_96_code 28 = .ok (.invokevirtual 244, 3) := by decide +kernel
theorem dc_M_ask_31 : decode prog_14_method_96_code 31 = .ok (.aload_n 0, 1) := by decide +kernel
theorem dc_M_ask_32 : decode prog_14_method_96_code 32 = .ok (.aload_n 0, 1) := by decide +kernel
theorem dc_M_ask_33 : decode prog_14_method_96_code 33 = .ok (.getfield 223, 3) := by decide +kernel
theorem dc_M_ask_36 : decode prog_14_method_96_code 36 = .ok (.bipush 8, 2) := by decide +kernel
theorem dc_M_ask_38 : decode prog_14_method_96_code 38 = .ok (.if_icmp .ge 10, 3) := by decide +kernel
theorem dc_M_ask_41 : decode prog_14_method_96_code 41 = .ok (.aload_n 0, 1) := by decide +kernel
theorem dc_M_ask_42 : decode prog_14_method_96_code 42 = .ok (.getfield 223, 3) := by decide +kernel
theorem dc_M_ask_45 : decode prog_14_method_96_code 45 = .ok (.goto 5, 3) := by decide +kernel
theorem dc_M_ask_48 : decode prog_14_method_96_code 48 = .ok (.bipush 8, 2) := by decide +kernel
theorem dc_M_ask_50 : decode prog_14_method_96_code 50 = .ok (.putfield 487, 3) := by decide +kernel
theorem fp_M_ask_487 : am_fp mt_M_ask.1 487 12 89 (.int) := ⟨"WebFinderModel", tt_M, 90, rfl, by decide, ct_M 89 (by decide), Or.inl ⟨(am_t7 200 rfl rfl), Or.inl rfl⟩⟩
theorem dc_M_ask_53 : decode prog_14_method_96_code 53 = .ok (.iconst 0, 1) := by decide +kernel
theorem dc_M_ask_54 : decode prog_14_method_96_code 54 = .ok (.istore_n 3, 1) := by decide +kernel
theorem dc_M_ask_55 : decode prog_14_method_96_code 55 = .ok (.iload_n 3, 1) := by decide +kernel
theorem dc_M_ask_56 : decode prog_14_method_96_code 56 = .ok (.aload_n 0, 1) := by decide +kernel
theorem dc_M_ask_57 : decode prog_14_method_96_code 57 = .ok (.getfield 487, 3) := by decide +kernel
theorem fl_M_487 : am_fl "WebFinderModel" 487 12 89 := ⟨"WebFinderModel", tt_M, 90, rfl, by decide, Or.inl (am_t7 200 rfl rfl)⟩
theorem dc_M_ask_60 : decode prog_14_method_96_code 60 = .ok (.if_icmp .ge 67, 3) := by decide +kernel
theorem dc_M_ask_63 : decode prog_14_method_96_code 63 = .ok (.aload_n 0, 1) := by decide +kernel
theorem dc_M_ask_64 : decode prog_14_method_96_code 64 = .ok (.getfield 409, 3) := by decide +kernel
theorem fl_M_409 : am_fl "WebFinderModel" 409 12 88 := ⟨"WebFinderModel", tt_M, 90, rfl, by decide, Or.inl (am_t7 199 rfl rfl)⟩
theorem dc_M_ask_67 : decode prog_14_method_96_code 67 = .ok (.iload_n 3, 1) := by decide +kernel
theorem dc_M_ask_68 : decode prog_14_method_96_code 68 = .ok (.aload_n 0, 1) := by decide +kernel
theorem dc_M_ask_69 : decode prog_14_method_96_code 69 = .ok (.getfield 229, 3) := by decide +kernel
theorem dc_M_ask_72 : decode prog_14_method_96_code 72 = .ok (.iload_n 3, 1) := by decide +kernel
theorem dc_M_ask_73 : decode prog_14_method_96_code 73 = .ok (.iaload, 1) := by decide +kernel
theorem dc_M_ask_74 : decode prog_14_method_96_code 74 = .ok (.iastore, 1) := by decide +kernel
theorem dc_M_ask_75 : decode prog_14_method_96_code 75 = .ok (.iconst 0, 1) := by decide +kernel
theorem dc_M_ask_76 : decode prog_14_method_96_code 76 = .ok (.istore 4, 2) := by decide +kernel
theorem dc_M_ask_78 : decode prog_14_method_96_code 78 = .ok (.iload 4, 2) := by decide +kernel
theorem dc_M_ask_80 : decode prog_14_method_96_code 80 = .ok (.aload_n 0, 1) := by decide +kernel
theorem dc_M_ask_81 : decode prog_14_method_96_code 81 = .ok (.getfield 229, 3) := by decide +kernel
theorem dc_M_ask_84 : decode prog_14_method_96_code 84 = .ok (.iload_n 3, 1) := by decide +kernel
theorem dc_M_ask_85 : decode prog_14_method_96_code 85 = .ok (.iaload, 1) := by decide +kernel
theorem dc_M_ask_86 : decode prog_14_method_96_code 86 = .ok (.if_icmp .ge 35, 3) := by decide +kernel
theorem dc_M_ask_89 : decode prog_14_method_96_code 89 = .ok (.aload_n 0, 1) := by decide +kernel
theorem dc_M_ask_90 : decode prog_14_method_96_code 90 = .ok (.getfield 406, 3) := by decide +kernel
theorem fl_M_406 : am_fl "WebFinderModel" 406 12 87 := ⟨"WebFinderModel", tt_M, 90, rfl, by decide, Or.inl (am_t7 198 rfl rfl)⟩
theorem dc_M_ask_93 : decode prog_14_method_96_code 93 = .ok (.bipush 20, 2) := by decide +kernel
theorem dc_M_ask_95 : decode prog_14_method_96_code 95 = .ok (.iload_n 3, 1) := by decide +kernel
theorem dc_M_ask_96 : decode prog_14_method_96_code 96 = .ok (.imul, 1) := by decide +kernel
theorem dc_M_ask_97 : decode prog_14_method_96_code 97 = .ok (.iload 4, 2) := by decide +kernel
theorem dc_M_ask_99 : decode prog_14_method_96_code 99 = .ok (.iadd, 1) := by decide +kernel
theorem dc_M_ask_100 : decode prog_14_method_96_code 100 = .ok (.aload_n 0, 1) := by decide +kernel
theorem dc_M_ask_101 : decode prog_14_method_96_code 101 = .ok (.getfield 232, 3) := by decide +kernel
theorem dc_M_ask_104 : decode prog_14_method_96_code 104 = .ok (.aload_n 0, 1) := by decide +kernel
theorem dc_M_ask_105 : decode prog_14_method_96_code 105 = .ok (.getfield 226, 3) := by decide +kernel
theorem dc_M_ask_108 : decode prog_14_method_96_code 108 = .ok (.iload_n 3, 1) := by decide +kernel
theorem dc_M_ask_109 : decode prog_14_method_96_code 109 = .ok (.iaload, 1) := by decide +kernel
theorem dc_M_ask_110 : decode prog_14_method_96_code 110 = .ok (.iload 4, 2) := by decide +kernel
theorem dc_M_ask_112 : decode prog_14_method_96_code 112 = .ok (.iadd, 1) := by decide +kernel
theorem dc_M_ask_113 : decode prog_14_method_96_code 113 = .ok (.baload, 1) := by decide +kernel
theorem dc_M_ask_114 : decode prog_14_method_96_code 114 = .ok (.bastore, 1) := by decide +kernel
theorem dc_M_ask_115 : decode prog_14_method_96_code 115 = .ok (.iinc 4 1, 3) := by decide +kernel
theorem dc_M_ask_118 : decode prog_14_method_96_code 118 = .ok (.goto (-40), 3) := by decide +kernel
theorem dc_M_ask_121 : decode prog_14_method_96_code 121 = .ok (.iinc 3 1, 3) := by decide +kernel
theorem dc_M_ask_124 : decode prog_14_method_96_code 124 = .ok (.goto (-69), 3) := by decide +kernel
theorem dc_M_ask_127 : decode prog_14_method_96_code 127 = .ok (.aload_n 0, 1) := by decide +kernel
theorem dc_M_ask_128 : decode prog_14_method_96_code 128 = .ok (.iconst 0, 1) := by decide +kernel
theorem dc_M_ask_129 : decode prog_14_method_96_code 129 = .ok (.putfield 547, 3) := by decide +kernel
theorem fp_M_ask_547 : am_fp mt_M_ask.1 547 12 84 (.int) := ⟨"WebFinderModel", tt_M, 90, rfl, by decide, ct_M 84 (by decide), Or.inl ⟨(am_t7 195 rfl rfl), Or.inl rfl⟩⟩
theorem dc_M_ask_132 : decode prog_14_method_96_code 132 = .ok (.iconst 0, 1) := by decide +kernel
theorem dc_M_ask_133 : decode prog_14_method_96_code 133 = .ok (.istore_n 3, 1) := by decide +kernel
theorem dc_M_ask_134 : decode prog_14_method_96_code 134 = .ok (.iload_n 3, 1) := by decide +kernel
theorem dc_M_ask_135 : decode prog_14_method_96_code 135 = .ok (.aload_n 0, 1) := by decide +kernel
theorem dc_M_ask_136 : decode prog_14_method_96_code 136 = .ok (.getfield 467, 3) := by decide +kernel
theorem dc_M_ask_139 : decode prog_14_method_96_code 139 = .ok (.if_icmp .ge 68, 3) := by decide +kernel
theorem dc_M_ask_142 : decode prog_14_method_96_code 142 = .ok (.aload_n 0, 1) := by decide +kernel
theorem dc_M_ask_143 : decode prog_14_method_96_code 143 = .ok (.aload_n 0, 1) := by decide +kernel
theorem dc_M_ask_144 : decode prog_14_method_96_code 144 = .ok (.getfield 131, 3) := by decide +kernel
theorem dc_M_ask_147 : decode prog_14_method_96_code 147 = .ok (.aload_n 0, 1) := by decide +kernel
theorem dc_M_ask_148 : decode prog_14_method_96_code 148 = .ok (.getfield 377, 3) := by decide +kernel
theorem dc_M_ask_151 : decode prog_14_method_96_code 151 = .ok (.iload_n 3, 1) := by decide +kernel
theorem dc_M_ask_152 : decode prog_14_method_96_code 152 = .ok (.iaload, 1) := by decide +kernel
theorem dc_M_ask_153 : decode prog_14_method_96_code 153 = .ok (.iaload, 1) := by decide +kernel
theorem dc_M_ask_154 : decode prog_14_method_96_code 154 = .ok (.aload_n 0, 1) := by decide +kernel
theorem dc_M_ask_155 : decode prog_14_method_96_code 155 = .ok (.getfield 146, 3) := by decide +kernel
theorem dc_M_ask_158 : decode prog_14_method_96_code 158 = .ok (.aload_n 0, 1) := by decide +kernel
theorem dc_M_ask_159 : decode prog_14_method_96_code 159 = .ok (.getfield 377, 3) := by decide +kernel
theorem dc_M_ask_162 : decode prog_14_method_96_code 162 = .ok (.iload_n 3, 1) := by decide +kernel
theorem dc_M_ask_163 : decode prog_14_method_96_code 163 = .ok (.iaload, 1) := by decide +kernel
theorem dc_M_ask_164 : decode prog_14_method_96_code 164 = .ok (.iaload, 1) := by decide +kernel
theorem dc_M_ask_165 : decode prog_14_method_96_code 165 = .ok (.aload_n 0, 1) := by decide +kernel
theorem dc_M_ask_166 : decode prog_14_method_96_code 166 = .ok (.getfield 374, 3) := by decide +kernel
theorem dc_M_ask_169 : decode prog_14_method_96_code 169 = .ok (.iload_n 3, 1) := by decide +kernel
theorem dc_M_ask_170 : decode prog_14_method_96_code 170 = .ok (.iaload, 1) := by decide +kernel
theorem dc_M_ask_171 : decode prog_14_method_96_code 171 = .ok (.invokevirtual 318, 3) := by decide +kernel
theorem dc_M_ask_174 : decode prog_14_method_96_code 174 = .ok (.aload_n 0, 1) := by decide +kernel
theorem dc_M_ask_175 : decode prog_14_method_96_code 175 = .ok (.iload_n 1, 1) := by decide +kernel
theorem dc_M_ask_176 : decode prog_14_method_96_code 176 = .ok (.invokevirtual 556, 3) := by decide +kernel
theorem mo_M_countOf : am_mo mt_M_countOf 1 := ⟨⟨by decide +kernel, by decide +kernel⟩, by decide +kernel, ⟨by decide +kernel, by decide +kernel⟩, (am_t10 42 rfl rfl), (am_t1 11 rfl rfl), by decide +kernel⟩
theorem im_M_countOf : Cond.instanceMethod mt_M_countOf.1 ∈ am_gw := (am_t10 41 rfl rfl)
theorem se_M_countOf : Cond.selects mt_M_countOf.1.cls mt_M_countOf.1 mt_M_countOf.1 ∈ am_gw := am_in (List.mem_append_left _ (by decide +kernel)) rfl
theorem ln_M_556 : am_ln "WebFinderModel" 556 mt_M_countOf.1 := Or.inl (am_t10 39 rfl rfl)
theorem dc_M_ask_179 : decode prog_14_method_96_code 179 = .ok (.istore 4, 2) := by decide +kernel
theorem dc_M_ask_181 : decode prog_14_method_96_code 181 = .ok (.iload 4, 2) := by decide +kernel
theorem dc_M_ask_183 : decode prog_14_method_96_code 183 = .ok (.ifCond .le 18, 3) := by decide +kernel
theorem dc_M_ask_186 : decode prog_14_method_96_code 186 = .ok (.aload_n 0, 1) := by decide +kernel
theorem dc_M_ask_187 : decode prog_14_method_96_code 187 = .ok (.iload_n 3, 1) := by decide +kernel
theorem dc_M_ask_188 : decode prog_14_method_96_code 188 = .ok (.iload 4, 2) := by decide +kernel
theorem dc_M_ask_190 : decode prog_14_method_96_code 190 = .ok (.i2l, 1) := by decide +kernel
theorem dc_M_ask_191 : decode prog_14_method_96_code 191 = .ok (.aload_n 0, 1) := by decide +kernel
theorem dc_M_ask_192 : decode prog_14_method_96_code 192 = .ok (.getfield 389, 3) := by decide +kernel
theorem dc_M_ask_195 : decode prog_14_method_96_code 195 = .ok (.iload_n 3, 1) := by decide +kernel
theorem dc_M_ask_196 : decode prog_14_method_96_code 196 = .ok (.laload, 1) := by decide +kernel
theorem dc_M_ask_197 : decode prog_14_method_96_code 197 = .ok (.lmul, 1) := by decide +kernel
theorem dc_M_ask_198 : decode prog_14_method_96_code 198 = .ok (.invokevirtual 559, 3) := by decide +kernel
theorem mo_M_place : am_mo mt_M_place 2 := ⟨⟨by decide +kernel, by decide +kernel⟩, by decide +kernel, ⟨by decide +kernel, by decide +kernel⟩, (am_t10 50 rfl rfl), (am_t1 11 rfl rfl), by decide +kernel⟩
theorem im_M_place : Cond.instanceMethod mt_M_place.1 ∈ am_gw := (am_t10 49 rfl rfl)
theorem se_M_place : Cond.selects mt_M_place.1.cls mt_M_place.1 mt_M_place.1 ∈ am_gw := am_in (List.mem_append_left _ (by decide +kernel)) rfl
theorem ln_M_559 : am_ln "WebFinderModel" 559 mt_M_place.1 := Or.inl (am_t10 47 rfl rfl)
theorem dc_M_ask_201 : decode prog_14_method_96_code 201 = .ok (.iinc 3 1, 3) := by decide +kernel
theorem dc_M_ask_204 : decode prog_14_method_96_code 204 = .ok (.goto (-70), 3) := by decide +kernel
theorem dc_M_ask_207 : decode prog_14_method_96_code 207 = .ok (.aload_n 0, 1) := by decide +kernel
theorem dc_M_ask_208 : decode prog_14_method_96_code 208 = .ok (.getfield 547, 3) := by decide +kernel
theorem fl_M_547 : am_fl "WebFinderModel" 547 12 84 := ⟨"WebFinderModel", tt_M, 90, rfl, by decide, Or.inl (am_t7 195 rfl rfl)⟩
theorem dc_M_ask_211 : decode prog_14_method_96_code 211 = .ok (.ireturn, 1) := by decide +kernel
theorem dc_M_countOf_0 : decode prog_14_method_63_code 0 = .ok (.iconst 0, 1) := by decide +kernel
theorem dc_M_countOf_1 : decode prog_14_method_63_code 1 = .ok (.istore_n 2, 1) := by decide +kernel
theorem dc_M_countOf_2 : decode prog_14_method_63_code 2 = .ok (.iconst 0, 1) := by decide +kernel
theorem dc_M_countOf_3 : decode prog_14_method_63_code 3 = .ok (.istore_n 3, 1) := by decide +kernel
theorem dc_M_countOf_4 : decode prog_14_method_63_code 4 = .ok (.iload_n 3, 1) := by decide +kernel
theorem dc_M_countOf_5 : decode prog_14_method_63_code 5 = .ok (.aload_n 0, 1) := by decide +kernel
theorem dc_M_countOf_6 : decode prog_14_method_63_code 6 = .ok (.getfield 223, 3) := by decide +kernel
theorem dc_M_countOf_9 : decode prog_14_method_63_code 9 = .ok (.if_icmp .ge 130, 3) := by decide +kernel
theorem dc_M_countOf_12 : decode prog_14_method_63_code 12 = .ok (.iconst 0, 1) := by decide +kernel
theorem dc_M_countOf_13 : decode prog_14_method_63_code 13 = .ok (.istore 4, 2) := by decide +kernel
theorem dc_M_countOf_15 : decode prog_14_method_63_code 15 = .ok (.aload_n 0, 1) := by decide +kernel
theorem dc_M_countOf_16 : decode prog_14_method_63_code 16 = .ok (.getfield 487, 3) := by decide +kernel
theorem dc_M_countOf_19 : decode prog_14_method_63_code 19 = .ok (.ifCond .le 20, 3) := by decide +kernel
theorem dc_M_countOf_22 : decode prog_14_method_63_code 22 = .ok (.iload_n 3, 1) := by decide +kernel
theorem dc_M_countOf_23 : decode prog_14_method_63_code 23 = .ok (.aload_n 0, 1) := by decide +kernel
theorem dc_M_countOf_24 : decode prog_14_method_63_code 24 = .ok (.getfield 487, 3) := by decide +kernel
theorem dc_M_countOf_27 : decode prog_14_method_63_code 27 = .ok (.iadd, 1) := by decide +kernel
theorem dc_M_countOf_28 : decode prog_14_method_63_code 28 = .ok (.aload_n 0, 1) := by decide +kernel
theorem dc_M_countOf_29 : decode prog_14_method_63_code 29 = .ok (.getfield 223, 3) := by decide +kernel
theorem dc_M_countOf_32 : decode prog_14_method_63_code 32 = .ok (.if_icmp .gt 7, 3) := by decide +kernel
theorem dc_M_countOf_35 : decode prog_14_method_63_code 35 = .ok (.iconst 1, 1) := by decide +kernel
theorem dc_M_countOf_36 : decode prog_14_method_63_code 36 = .ok (.goto 4, 3) := by decide +kernel
theorem dc_M_countOf_39 : decode prog_14_method_63_code 39 = .ok (.iconst 0, 1) := by decide +kernel
theorem dc_M_countOf_40 : decode prog_14_method_63_code 40 = .ok (.istore 5, 2) := by decide +kernel
theorem dc_M_countOf_42 : decode prog_14_method_63_code 42 = .ok (.iconst 0, 1) := by decide +kernel
theorem dc_M_countOf_43 : decode prog_14_method_63_code 43 = .ok (.istore 6, 2) := by decide +kernel
theorem dc_M_countOf_45 : decode prog_14_method_63_code 45 = .ok (.iload 6, 2) := by decide +kernel
theorem dc_M_countOf_47 : decode prog_14_method_63_code 47 = .ok (.aload_n 0, 1) := by decide +kernel
theorem dc_M_countOf_48 : decode prog_14_method_63_code 48 = .ok (.getfield 487, 3) := by decide +kernel
theorem dc_M_countOf_51 : decode prog_14_method_63_code 51 = .ok (.if_icmp .ge 56, 3) := by decide +kernel
theorem dc_M_countOf_54 : decode prog_14_method_63_code 54 = .ok (.iload 4, 2) := by decide +kernel
theorem dc_M_countOf_56 : decode prog_14_method_63_code 56 = .ok (.ifCond .ne 13, 3) := by decide +kernel
theorem dc_M_countOf_59 : decode prog_14_method_63_code 59 = .ok (.aload_n 0, 1) := by decide +kernel
theorem dc_M_countOf_60 : decode prog_14_method_63_code 60 = .ok (.iload_n 3, 1) := by decide +kernel
theorem dc_M_countOf_61 : decode prog_14_method_63_code 61 = .ok (.iload 6, 2) := by decide +kernel
theorem dc_M_countOf_63 : decode prog_14_method_63_code 63 = .ok (.invokevirtual 490, 3) := by decide +kernel
theorem mo_M_isAsked : am_mo mt_M_isAsked 2 := ⟨⟨by decide +kernel, by decide +kernel⟩, by decide +kernel, ⟨by decide +kernel, by decide +kernel⟩, (am_t10 46 rfl rfl), (am_t1 11 rfl rfl), by decide +kernel⟩
theorem im_M_isAsked : Cond.instanceMethod mt_M_isAsked.1 ∈ am_gw := (am_t10 45 rfl rfl)
theorem se_M_isAsked : Cond.selects mt_M_isAsked.1.cls mt_M_isAsked.1 mt_M_isAsked.1 ∈ am_gw := am_in (List.mem_append_left _ (by decide +kernel)) rfl
theorem ln_M_490 : am_ln "WebFinderModel" 490 mt_M_isAsked.1 := Or.inl (am_t10 43 rfl rfl)
theorem dc_M_countOf_66 : decode prog_14_method_63_code 66 = .ok (.ifCond .eq 7, 3) := by decide +kernel
theorem dc_M_countOf_69 : decode prog_14_method_63_code 69 = .ok (.iconst 1, 1) := by decide +kernel
theorem dc_M_countOf_70 : decode prog_14_method_63_code 70 = .ok (.goto 4, 3) := by decide +kernel
theorem dc_M_countOf_73 : decode prog_14_method_63_code 73 = .ok (.iconst 0, 1) := by decide +kernel
theorem dc_M_countOf_74 : decode prog_14_method_63_code 74 = .ok (.istore 4, 2) := by decide +kernel
theorem dc_M_countOf_76 : decode prog_14_method_63_code 76 = .ok (.iload 5, 2) := by decide +kernel
theorem dc_M_countOf_78 : decode prog_14_method_63_code 78 = .ok (.ifCond .eq 20, 3) := by decide +kernel
theorem dc_M_countOf_81 : decode prog_14_method_63_code 81 = .ok (.aload_n 0, 1) := by decide +kernel
theorem dc_M_countOf_82 : decode prog_14_method_63_code 82 = .ok (.iload_n 3, 1) := by decide +kernel
theorem dc_M_countOf_83 : decode prog_14_method_63_code 83 = .ok (.iload 6, 2) := by decide +kernel
theorem dc_M_countOf_85 : decode prog_14_method_63_code 85 = .ok (.iadd, 1) := by decide +kernel
theorem dc_M_countOf_86 : decode prog_14_method_63_code 86 = .ok (.iload 6, 2) := by decide +kernel
theorem dc_M_countOf_88 : decode prog_14_method_63_code 88 = .ok (.invokevirtual 490, 3) := by decide +kernel
theorem dc_M_countOf_91 : decode prog_14_method_63_code 91 = .ok (.ifCond .eq 7, 3) := by decide +kernel
theorem dc_M_countOf_94 : decode prog_14_method_63_code 94 = .ok (.iconst 1, 1) := by decide +kernel
theorem dc_M_countOf_95 : decode prog_14_method_63_code 95 = .ok (.goto 4, 3) := by decide +kernel
theorem dc_M_countOf_98 : decode prog_14_method_63_code 98 = .ok (.iconst 0, 1) := by decide +kernel
theorem dc_M_countOf_99 : decode prog_14_method_63_code 99 = .ok (.istore 5, 2) := by decide +kernel
theorem dc_M_countOf_101 : decode prog_14_method_63_code 101 = .ok (.iinc 6 1, 3) := by decide +kernel
theorem dc_M_countOf_104 : decode prog_14_method_63_code 104 = .ok (.goto (-59), 3) := by decide +kernel
theorem dc_M_countOf_107 : decode prog_14_method_63_code 107 = .ok (.iload_n 2, 1) := by decide +kernel
theorem dc_M_countOf_108 : decode prog_14_method_63_code 108 = .ok (.iload_n 1, 1) := by decide +kernel
theorem dc_M_countOf_109 : decode prog_14_method_63_code 109 = .ok (.iconst 2, 1) := by decide +kernel
theorem dc_M_countOf_110 : decode prog_14_method_63_code 110 = .ok (.if_icmp .ne 11, 3) := by decide +kernel
theorem dc_M_countOf_113 : decode prog_14_method_63_code 113 = .ok (.iload 5, 2) := by decide +kernel
theorem dc_M_countOf_115 : decode prog_14_method_63_code 115 = .ok (.ifCond .eq 15, 3) := by decide +kernel
theorem dc_M_countOf_118 : decode prog_14_method_63_code 118 = .ok (.goto 8, 3) := by decide +kernel
theorem dc_M_countOf_121 : decode prog_14_method_63_code 121 = .ok (.iload 4, 2) := by decide +kernel
theorem dc_M_countOf_123 : decode prog_14_method_63_code 123 = .ok (.ifCond .eq 7, 3) := by decide +kernel
theorem dc_M_countOf_126 : decode prog_14_method_63_code 126 = .ok (.iconst 1, 1) := by decide +kernel
theorem dc_M_countOf_127 : decode prog_14_method_63_code 127 = .ok (.goto 4, 3) := by decide +kernel
theorem dc_M_countOf_130 : decode prog_14_method_63_code 130 = .ok (.iconst 0, 1) := by decide +kernel
theorem dc_M_countOf_131 : decode prog_14_method_63_code 131 = .ok (.iadd, 1) := by decide +kernel
theorem dc_M_countOf_132 : decode prog_14_method_63_code 132 = .ok (.istore_n 2, 1) := by decide +kernel
theorem dc_M_countOf_133 : decode prog_14_method_63_code 133 = .ok (.iinc 3 1, 3) := by decide +kernel
theorem dc_M_countOf_136 : decode prog_14_method_63_code 136 = .ok (.goto (-132), 3) := by decide +kernel
theorem dc_M_countOf_139 : decode prog_14_method_63_code 139 = .ok (.iconst 0, 1) := by decide +kernel
theorem dc_M_countOf_140 : decode prog_14_method_63_code 140 = .ok (.istore_n 3, 1) := by decide +kernel
theorem dc_M_countOf_141 : decode prog_14_method_63_code 141 = .ok (.iload_n 3, 1) := by decide +kernel
theorem dc_M_countOf_142 : decode prog_14_method_63_code 142 = .ok (.aload_n 0, 1) := by decide +kernel
theorem dc_M_countOf_143 : decode prog_14_method_63_code 143 = .ok (.getfield 487, 3) := by decide +kernel
theorem dc_M_countOf_146 : decode prog_14_method_63_code 146 = .ok (.if_icmp .ge 68, 3) := by decide +kernel
theorem dc_M_countOf_149 : decode prog_14_method_63_code 149 = .ok (.iload_n 1, 1) := by decide +kernel
theorem dc_M_countOf_150 : decode prog_14_method_63_code 150 = .ok (.iconst 1, 1) := by decide +kernel
theorem dc_M_countOf_151 : decode prog_14_method_63_code 151 = .ok (.if_icmp .ne 63, 3) := by decide +kernel
theorem dc_M_countOf_154 : decode prog_14_method_63_code 154 = .ok (.iconst 0, 1) := by decide +kernel
theorem dc_M_countOf_155 : decode prog_14_method_63_code 155 = .ok (.istore 4, 2) := by decide +kernel
theorem dc_M_countOf_157 : decode prog_14_method_63_code 157 = .ok (.iconst 0, 1) := by decide +kernel
theorem dc_M_countOf_158 : decode prog_14_method_63_code 158 = .ok (.istore 5, 2) := by decide +kernel
theorem dc_M_countOf_160 : decode prog_14_method_63_code 160 = .ok (.iload 5, 2) := by decide +kernel
theorem dc_M_countOf_162 : decode prog_14_method_63_code 162 = .ok (.aload_n 0, 1) := by decide +kernel
theorem dc_M_countOf_163 : decode prog_14_method_63_code 163 = .ok (.getfield 223, 3) := by decide +kernel
theorem dc_M_countOf_166 : decode prog_14_method_63_code 166 = .ok (.if_icmp .ge 31, 3) := by decide +kernel
theorem dc_M_countOf_169 : decode prog_14_method_63_code 169 = .ok (.iload 4, 2) := by decide +kernel
theorem dc_M_countOf_171 : decode prog_14_method_63_code 171 = .ok (.ifCond .ne 13, 3) := by decide +kernel
theorem dc_M_countOf_174 : decode prog_14_method_63_code 174 = .ok (.aload_n 0, 1) := by decide +kernel
theorem dc_M_countOf_175 : decode prog_14_method_63_code 175 = .ok (.iload 5, 2) := by decide +kernel
theorem dc_M_countOf_177 : decode prog_14_method_63_code 177 = .ok (.iload_n 3, 1) := by decide +kernel
theorem dc_M_countOf_178 : decode prog_14_method_63_code 178 = .ok (.invokevirtual 490, 3) := by decide +kernel
theorem dc_M_countOf_181 : decode prog_14_method_63_code 181 = .ok (.ifCond .eq 7, 3) := by decide +kernel
theorem dc_M_countOf_184 : decode prog_14_method_63_code 184 = .ok (.iconst 1, 1) := by decide +kernel
theorem dc_M_countOf_185 : decode prog_14_method_63_code 185 = .ok (.goto 4, 3) := by decide +kernel
theorem dc_M_countOf_188 : decode prog_14_method_63_code 188 = .ok (.iconst 0, 1) := by decide +kernel
theorem dc_M_countOf_189 : decode prog_14_method_63_code 189 = .ok (.istore 4, 2) := by decide +kernel
theorem dc_M_countOf_191 : decode prog_14_method_63_code 191 = .ok (.iinc 5 1, 3) := by decide +kernel
theorem dc_M_countOf_194 : decode prog_14_method_63_code 194 = .ok (.goto (-34), 3) := by decide +kernel
theorem dc_M_countOf_197 : decode prog_14_method_63_code 197 = .ok (.iload 4, 2) := by decide +kernel
theorem dc_M_countOf_199 : decode prog_14_method_63_code 199 = .ok (.ifCond .eq 7, 3) := by decide +kernel
theorem dc_M_countOf_202 : decode prog_14_method_63_code 202 = .ok (.iload_n 2, 1) := by decide +kernel
theorem dc_M_countOf_203 : decode prog_14_method_63_code 203 = .ok (.goto 4, 3) := by decide +kernel
theorem dc_M_countOf_206 : decode prog_14_method_63_code 206 = .ok (.iconst 0, 1) := by decide +kernel
theorem dc_M_countOf_207 : decode prog_14_method_63_code 207 = .ok (.istore_n 2, 1) := by decide +kernel
theorem dc_M_countOf_208 : decode prog_14_method_63_code 208 = .ok (.iinc 3 1, 3) := by decide +kernel
theorem dc_M_countOf_211 : decode prog_14_method_63_code 211 = .ok (.goto (-70), 3) := by decide +kernel
theorem dc_M_countOf_214 : decode prog_14_method_63_code 214 = .ok (.iload_n 2, 1) := by decide +kernel
theorem dc_M_countOf_215 : decode prog_14_method_63_code 215 = .ok (.ireturn, 1) := by decide +kernel
theorem dc_M_isAsked_0 : decode prog_14_method_62_code 0 = .ok (.aload_n 0, 1) := by decide +kernel
theorem dc_M_isAsked_1 : decode prog_14_method_62_code 1 = .ok (.getfield 229, 3) := by decide +kernel
theorem dc_M_isAsked_4 : decode prog_14_method_62_code 4 = .ok (.iload_n 1, 1) := by decide +kernel
theorem dc_M_isAsked_5 : decode prog_14_method_62_code 5 = .ok (.iaload, 1) := by decide +kernel
theorem dc_M_isAsked_6 : decode prog_14_method_62_code 6 = .ok (.aload_n 0, 1) := by decide +kernel
theorem dc_M_isAsked_7 : decode prog_14_method_62_code 7 = .ok (.getfield 409, 3) := by decide +kernel
theorem dc_M_isAsked_10 : decode prog_14_method_62_code 10 = .ok (.iload_n 2, 1) := by decide +kernel
theorem dc_M_isAsked_11 : decode prog_14_method_62_code 11 = .ok (.iaload, 1) := by decide +kernel
theorem dc_M_isAsked_12 : decode prog_14_method_62_code 12 = .ok (.if_icmp .ne 7, 3) := by decide +kernel
theorem dc_M_isAsked_15 : decode prog_14_method_62_code 15 = .ok (.iconst 1, 1) := by decide +kernel
theorem dc_M_isAsked_16 : decode prog_14_method_62_code 16 = .ok (.goto 4, 3) := by decide +kernel
theorem dc_M_isAsked_19 : decode prog_14_method_62_code 19 = .ok (.iconst 0, 1) := by decide +kernel
theorem dc_M_isAsked_20 : decode prog_14_method_62_code 20 = .ok (.istore_n 3, 1) := by decide +kernel
theorem dc_M_isAsked_21 : decode prog_14_method_62_code 21 = .ok (.iconst 0, 1) := by decide +kernel
theorem dc_M_isAsked_22 : decode prog_14_method_62_code 22 = .ok (.istore 4, 2) := by decide +kernel
theorem dc_M_isAsked_24 : decode prog_14_method_62_code 24 = .ok (.iload 4, 2) := by decide +kernel
theorem dc_M_isAsked_26 : decode prog_14_method_62_code 26 = .ok (.aload_n 0, 1) := by decide +kernel
theorem dc_M_isAsked_27 : decode prog_14_method_62_code 27 = .ok (.getfield 229, 3) := by decide +kernel
theorem dc_M_isAsked_30 : decode prog_14_method_62_code 30 = .ok (.iload_n 1, 1) := by decide +kernel
theorem dc_M_isAsked_31 : decode prog_14_method_62_code 31 = .ok (.iaload, 1) := by decide +kernel
theorem dc_M_isAsked_32 : decode prog_14_method_62_code 32 = .ok (.if_icmp .ge 48, 3) := by decide +kernel
theorem dc_M_isAsked_35 : decode prog_14_method_62_code 35 = .ok (.iload_n 3, 1) := by decide +kernel
theorem dc_M_isAsked_36 : decode prog_14_method_62_code 36 = .ok (.ifCond .eq 44, 3) := by decide +kernel
theorem dc_M_isAsked_39 : decode prog_14_method_62_code 39 = .ok (.aload_n 0, 1) := by decide +kernel
theorem dc_M_isAsked_40 : decode prog_14_method_62_code 40 = .ok (.getfield 232, 3) := by decide +kernel
theorem dc_M_isAsked_43 : decode prog_14_method_62_code 43 = .ok (.aload_n 0, 1) := by decide +kernel
theorem dc_M_isAsked_44 : decode prog_14_method_62_code 44 = .ok (.getfield 226, 3) := by decide +kernel
theorem dc_M_isAsked_47 : decode prog_14_method_62_code 47 = .ok (.iload_n 1, 1) := by decide +kernel
theorem dc_M_isAsked_48 : decode prog_14_method_62_code 48 = .ok (.iaload, 1) := by decide +kernel
theorem dc_M_isAsked_49 : decode prog_14_method_62_code 49 = .ok (.iload 4, 2) := by decide +kernel
theorem dc_M_isAsked_51 : decode prog_14_method_62_code 51 = .ok (.iadd, 1) := by decide +kernel
theorem dc_M_isAsked_52 : decode prog_14_method_62_code 52 = .ok (.baload, 1) := by decide +kernel
theorem dc_M_isAsked_53 : decode prog_14_method_62_code 53 = .ok (.aload_n 0, 1) := by decide +kernel
theorem dc_M_isAsked_54 : decode prog_14_method_62_code 54 = .ok (.getfield 406, 3) := by decide +kernel
theorem dc_M_isAsked_57 : decode prog_14_method_62_code 57 = .ok (.bipush 20, 2) := by decide +kernel
theorem dc_M_isAsked_59 : decode prog_14_method_62_code 59 = .ok (.iload_n 2, 1) := by decide +kernel
theorem dc_M_isAsked_60 : decode prog_14_method_62_code 60 = .ok (.imul, 1) := by decide +kernel
theorem dc_M_isAsked_61 : decode prog_14_method_62_code 61 = .ok (.iload 4, 2) := by decide +kernel
theorem dc_M_isAsked_63 : decode prog_14_method_62_code 63 = .ok (.iadd, 1) := by decide +kernel
theorem dc_M_isAsked_64 : decode prog_14_method_62_code 64 = .ok (.baload, 1) := by decide +kernel
theorem dc_M_isAsked_65 : decode prog_14_method_62_code 65 = .ok (.if_icmp .ne 7, 3) := by decide +kernel
theorem dc_M_isAsked_68 : decode prog_14_method_62_code 68 = .ok (.iconst 1, 1) := by decide +kernel
theorem dc_M_isAsked_69 : decode prog_14_method_62_code 69 = .ok (.goto 4, 3) := by decide +kernel
theorem dc_M_isAsked_72 : decode prog_14_method_62_code 72 = .ok (.iconst 0, 1) := by decide +kernel
theorem dc_M_isAsked_73 : decode prog_14_method_62_code 73 = .ok (.istore_n 3, 1) := by decide +kernel
theorem dc_M_isAsked_74 : decode prog_14_method_62_code 74 = .ok (.iinc 4 1, 3) := by decide +kernel
theorem dc_M_isAsked_77 : decode prog_14_method_62_code 77 = .ok (.goto (-53), 3) := by decide +kernel
theorem dc_M_isAsked_80 : decode prog_14_method_62_code 80 = .ok (.iload_n 3, 1) := by decide +kernel
theorem dc_M_isAsked_81 : decode prog_14_method_62_code 81 = .ok (.ireturn, 1) := by decide +kernel
theorem dc_M_place_0 : decode prog_14_method_97_code 0 = .ok (.aload_n 0, 1) := by decide +kernel
theorem dc_M_place_1 : decode prog_14_method_97_code 1 = .ok (.getfield 547, 3) := by decide +kernel
theorem dc_M_place_4 : decode prog_14_method_97_code 4 = .ok (.istore 4, 2) := by decide +kernel
theorem dc_M_place_6 : decode prog_14_method_97_code 6 = .ok (.iload 4, 2) := by decide +kernel
theorem dc_M_place_8 : decode prog_14_method_97_code 8 = .ok (.ifCond .le 55, 3) := by decide +kernel
theorem dc_M_place_11 : decode prog_14_method_97_code 11 = .ok (.aload_n 0, 1) := by decide +kernel
theorem dc_M_place_12 : decode prog_14_method_97_code 12 = .ok (.getfield 403, 3) := by decide +kernel
theorem fl_M_403 : am_fl "WebFinderModel" 403 12 86 := ⟨"WebFinderModel", tt_M, 90, rfl, by decide, Or.inl (am_t7 197 rfl rfl)⟩
theorem dc_M_place_15 : decode prog_14_method_97_code 15 = .ok (.iload 4, 2) := by decide +kernel
theorem dc_M_place_17 : decode prog_14_method_97_code 17 = .ok (.iconst 1, 1) := by decide +kernel
theorem dc_M_place_18 : decode prog_14_method_97_code 18 = .ok (.isub, 1) := by decide +kernel
theorem dc_M_place_19 : decode prog_14_method_97_code 19 = .ok (.laload, 1) := by decide +kernel
theorem dc_M_place_20 : decode prog_14_method_97_code 20 = .ok (.lload_n 2, 1) := by decide +kernel
theorem dc_M_place_21 : decode prog_14_method_97_code 21 = .ok (.lcmp, 1) := by decide +kernel
theorem dc_M_place_22 : decode prog_14_method_97_code 22 = .ok (.ifCond .ge 41, 3) := by decide +kernel
theorem dc_M_place_25 : decode prog_14_method_97_code 25 = .ok (.aload_n 0, 1) := by decide +kernel
theorem dc_M_place_26 : decode prog_14_method_97_code 26 = .ok (.getfield 403, 3) := by decide +kernel
theorem dc_M_place_29 : decode prog_14_method_97_code 29 = .ok (.iload 4, 2) := by decide +kernel
theorem dc_M_place_31 : decode prog_14_method_97_code 31 = .ok (.aload_n 0, 1) := by decide +kernel
theorem dc_M_place_32 : decode prog_14_method_97_code 32 = .ok (.getfield 403, 3) := by decide +kernel
theorem dc_M_place_35 : decode prog_14_method_97_code 35 = .ok (.iload 4, 2) := by decide +kernel
theorem dc_M_place_37 : decode prog_14_method_97_code 37 = .ok (.iconst 1, 1) := by decide +kernel
theorem dc_M_place_38 : decode prog_14_method_97_code 38 = .ok (.isub, 1) := by decide +kernel
theorem dc_M_place_39 : decode prog_14_method_97_code 39 = .ok (.laload, 1) := by decide +kernel
theorem dc_M_place_40 : decode prog_14_method_97_code 40 = .ok (.lastore, 1) := by decide +kernel
theorem dc_M_place_41 : decode prog_14_method_97_code 41 = .ok (.aload_n 0, 1) := by decide +kernel
theorem dc_M_place_42 : decode prog_14_method_97_code 42 = .ok (.getfield 400, 3) := by decide +kernel
theorem fl_M_400 : am_fl "WebFinderModel" 400 12 85 := ⟨"WebFinderModel", tt_M, 90, rfl, by decide, Or.inl (am_t7 196 rfl rfl)⟩
theorem dc_M_place_45 : decode prog_14_method_97_code 45 = .ok (.iload 4, 2) := by decide +kernel
theorem dc_M_place_47 : decode prog_14_method_97_code 47 = .ok (.aload_n 0, 1) := by decide +kernel
theorem dc_M_place_48 : decode prog_14_method_97_code 48 = .ok (.getfield 400, 3) := by decide +kernel
theorem dc_M_place_51 : decode prog_14_method_97_code 51 = .ok (.iload 4, 2) := by decide +kernel
theorem dc_M_place_53 : decode prog_14_method_97_code 53 = .ok (.iconst 1, 1) := by decide +kernel
theorem dc_M_place_54 : decode prog_14_method_97_code 54 = .ok (.isub, 1) := by decide +kernel
theorem dc_M_place_55 : decode prog_14_method_97_code 55 = .ok (.iaload, 1) := by decide +kernel
theorem dc_M_place_56 : decode prog_14_method_97_code 56 = .ok (.iastore, 1) := by decide +kernel
theorem dc_M_place_57 : decode prog_14_method_97_code 57 = .ok (.iinc 4 (-1), 3) := by decide +kernel
theorem dc_M_place_60 : decode prog_14_method_97_code 60 = .ok (.goto (-54), 3) := by decide +kernel
theorem dc_M_place_63 : decode prog_14_method_97_code 63 = .ok (.aload_n 0, 1) := by decide +kernel
theorem dc_M_place_64 : decode prog_14_method_97_code 64 = .ok (.getfield 403, 3) := by decide +kernel
theorem dc_M_place_67 : decode prog_14_method_97_code 67 = .ok (.iload 4, 2) := by decide +kernel
theorem dc_M_place_69 : decode prog_14_method_97_code 69 = .ok (.lload_n 2, 1) := by decide +kernel
theorem dc_M_place_70 : decode prog_14_method_97_code 70 = .ok (.lastore, 1) := by decide +kernel
theorem dc_M_place_71 : decode prog_14_method_97_code 71 = .ok (.aload_n 0, 1) := by decide +kernel
theorem dc_M_place_72 : decode prog_14_method_97_code 72 = .ok (.getfield 400, 3) := by decide +kernel
theorem dc_M_place_75 : decode prog_14_method_97_code 75 = .ok (.iload 4, 2) := by decide +kernel
theorem dc_M_place_77 : decode prog_14_method_97_code 77 = .ok (.iload_n 1, 1) := by decide +kernel
theorem dc_M_place_78 : decode prog_14_method_97_code 78 = .ok (.iastore, 1) := by decide +kernel
theorem dc_M_place_79 : decode prog_14_method_97_code 79 = .ok (.aload_n 0, 1) := by decide +kernel
theorem dc_M_place_80 : decode prog_14_method_97_code 80 = .ok (.dup, 1) := by decide +kernel
theorem dc_M_place_81 : decode prog_14_method_97_code 81 = .ok (.getfield 547, 3) := by decide +kernel
theorem dc_M_place_84 : decode prog_14_method_97_code 84 = .ok (.iconst 1, 1) := by decide +kernel
theorem dc_M_place_85 : decode prog_14_method_97_code 85 = .ok (.iadd, 1) := by decide +kernel
theorem dc_M_place_86 : decode prog_14_method_97_code 86 = .ok (.putfield 547, 3) := by decide +kernel
theorem fp_M_place_547 : am_fp mt_M_place.1 547 12 84 (.int) := ⟨"WebFinderModel", tt_M, 90, rfl, by decide, ct_M 84 (by decide), Or.inl ⟨(am_t7 195 rfl rfl), Or.inl rfl⟩⟩
theorem dc_M_place_89 : decode prog_14_method_97_code 89 = .ok (.return_, 1) := by decide +kernel
theorem dc_M_hit_0 : decode prog_14_method_98_code 0 = .ok (.aload_n 0, 1) := by decide +kernel
theorem dc_M_hit_1 : decode prog_14_method_98_code 1 = .ok (.iconst 0, 1) := by decide +kernel
theorem dc_M_hit_2 : decode prog_14_method_98_code 2 = .ok (.putfield 1, 3) := by decide +kernel
theorem fp_M_hit_1 : am_fp mt_M_hit.1 1 12 2 (.int) := ⟨"WebFinderModel", tt_M, 90, rfl, by decide, ct_M 2 (by decide), Or.inl ⟨(am_t7 113 rfl rfl), Or.inl rfl⟩⟩
theorem dc_M_hit_5 : decode prog_14_method_98_code 5 = .ok (.iload_n 1, 1) := by decide +kernel
theorem dc_M_hit_6 : decode prog_14_method_98_code 6 = .ok (.ifCond .lt 20, 3) := by decide +kernel
theorem dc_M_hit_9 : decode prog_14_method_98_code 9 = .ok (.iload_n 1, 1) := by decide +kernel
theorem dc_M_hit_10 : decode prog_14_method_98_code 10 = .ok (.aload_n 0, 1) := by decide +kernel
theorem dc_M_hit_11 : decode prog_14_method_98_code 11 = .ok (.getfield 547, 3) := by decide +kernel
theorem dc_M_hit_14 : decode prog_14_method_98_code 14 = .ok (.if_icmp .ge 12, 3) := by decide +kernel
theorem dc_M_hit_17 : decode prog_14_method_98_code 17 = .ok (.aload_n 0, 1) := by decide +kernel
theorem dc_M_hit_18 : decode prog_14_method_98_code 18 = .ok (.getfield 400, 3) := by decide +kernel
theorem dc_M_hit_21 : decode prog_14_method_98_code 21 = .ok (.iload_n 1, 1) := by decide +kernel
theorem dc_M_hit_22 : decode prog_14_method_98_code 22 = .ok (.iaload, 1) := by decide +kernel
theorem dc_M_hit_23 : decode prog_14_method_98_code 23 = .ok (.goto 4, 3) := by decide +kernel
theorem dc_M_hit_26 : decode prog_14_method_98_code 26 = .ok (.iconst (-1), 1) := by decide +kernel
theorem dc_M_hit_27 : decode prog_14_method_98_code 27 = .ok (.ireturn, 1) := by decide +kernel
theorem dc_M_score_0 : decode prog_14_method_99_code 0 = .ok (.aload_n 0, 1) := by decide +kernel
theorem dc_M_score_1 : decode prog_14_method_99_code 1 = .ok (.iconst 0, 1) := by decide +kernel
theorem dc_M_score_2 : decode prog_14_method_99_code 2 = .ok (.putfield 1, 3) := by decide +kernel
theorem fp_M_score_1 : am_fp mt_M_score.1 1 12 2 (.int) := ⟨"WebFinderModel", tt_M, 90, rfl, by decide, ct_M 2 (by decide), Or.inl ⟨(am_t7 113 rfl rfl), Or.inl rfl⟩⟩
theorem dc_M_score_5 : decode prog_14_method_99_code 5 = .ok (.iload_n 1, 1) := by decide +kernel
theorem dc_M_score_6 : decode prog_14_method_99_code 6 = .ok (.ifCond .lt 20, 3) := by decide +kernel
theorem dc_M_score_9 : decode prog_14_method_99_code 9 = .ok (.iload_n 1, 1) := by decide +kernel
theorem dc_M_score_10 : decode prog_14_method_99_code 10 = .ok (.aload_n 0, 1) := by decide +kernel
theorem dc_M_score_11 : decode prog_14_method_99_code 11 = .ok (.getfield 547, 3) := by decide +kernel
theorem dc_M_score_14 : decode prog_14_method_99_code 14 = .ok (.if_icmp .ge 12, 3) := by decide +kernel
theorem dc_M_score_17 : decode prog_14_method_99_code 17 = .ok (.aload_n 0, 1) := by decide +kernel
theorem dc_M_score_18 : decode prog_14_method_99_code 18 = .ok (.getfield 403, 3) := by decide +kernel
theorem dc_M_score_21 : decode prog_14_method_99_code 21 = .ok (.iload_n 1, 1) := by decide +kernel
theorem dc_M_score_22 : decode prog_14_method_99_code 22 = .ok (.laload, 1) := by decide +kernel
theorem dc_M_score_23 : decode prog_14_method_99_code 23 = .ok (.goto 6, 3) := by decide +kernel
theorem dc_M_score_26 : decode prog_14_method_99_code 26 = .ok (.ldc2_w 563, 3) := by decide +kernel
theorem cl_M_563 : Cond.constantLong "WebFinderModel" 563 (-1) ∈ am_gw := (am_t10 59 rfl rfl)
theorem dc_M_score_29 : decode prog_14_method_99_code 29 = .ok (.lreturn, 1) := by decide +kernel
