theorem r4_init_0 (x0 s0 : Nat) : dAL (m4_init x0 s0) 0 0 1 := Or.inl ⟨0, (show decode cX4_init 0 = .ok (.aload_n 0, 1) by decide +kernel), rfl, rfl⟩
theorem r4_init_1 (x0 s0 : Nat) : dOI (m4_init x0 s0) 1 4 := ⟨3, (show decode cX4_init 1 = .ok (.invokespecial 3, 3) by decide +kernel), t_161, Nat.le_of_ble_eq_true rfl, rfl⟩
theorem r4_init_4 (x0 s0 : Nat) : dAL (m4_init x0 s0) 4 0 5 := Or.inl ⟨0, (show decode cX4_init 4 = .ok (.aload_n 0, 1) by decide +kernel), rfl, rfl⟩
theorem r4_init_5 (x0 s0 : Nat) : dKI (m4_init x0 s0) 5 30 7 := Or.inr (Or.inl ⟨30, (show decode cX4_init 5 = .ok (.bipush 30, 2) by decide +kernel), rfl, rfl⟩)
theorem r4_init_7 (x0 s0 : Nat) : dNA (m4_init x0 s0) 7 .int 9 := ⟨(show decode cX4_init 7 = .ok (.newarray .int, 2) by decide +kernel), t_139, rfl⟩
theorem r4_init_9 (x0 s0 : Nat) : dPF (m4_init x0 s0) 9 4 0 12 := ⟨9, (show decode cX4_init 9 = .ok (.putfield 9, 3) by decide +kernel), t_162, ⟨by decide, by decide⟩, rfl⟩
theorem r4_init_12 (x0 s0 : Nat) : dAL (m4_init x0 s0) 12 0 13 := Or.inl ⟨0, (show decode cX4_init 12 = .ok (.aload_n 0, 1) by decide +kernel), rfl, rfl⟩
theorem r4_init_13 (x0 s0 : Nat) : dKI (m4_init x0 s0) 13 30 15 := Or.inr (Or.inl ⟨30, (show decode cX4_init 13 = .ok (.bipush 30, 2) by decide +kernel), rfl, rfl⟩)
theorem r4_init_15 (x0 s0 : Nat) : dNA (m4_init x0 s0) 15 .int 17 := ⟨(show decode cX4_init 15 = .ok (.newarray .int, 2) by decide +kernel), t_139, rfl⟩
theorem r4_init_17 (x0 s0 : Nat) : dPF (m4_init x0 s0) 17 4 1 20 := ⟨15, (show decode cX4_init 17 = .ok (.putfield 15, 3) by decide +kernel), t_164, ⟨by decide, by decide⟩, rfl⟩
theorem r4_init_20 (x0 s0 : Nat) : dAL (m4_init x0 s0) 20 0 21 := Or.inl ⟨0, (show decode cX4_init 20 = .ok (.aload_n 0, 1) by decide +kernel), rfl, rfl⟩
theorem r4_init_21 (x0 s0 : Nat) : dKI (m4_init x0 s0) 21 30 23 := Or.inr (Or.inl ⟨30, (show decode cX4_init 21 = .ok (.bipush 30, 2) by decide +kernel), rfl, rfl⟩)
theorem r4_init_23 (x0 s0 : Nat) : dNA (m4_init x0 s0) 23 .int 25 := ⟨(show decode cX4_init 23 = .ok (.newarray .int, 2) by decide +kernel), t_139, rfl⟩
theorem r4_init_25 (x0 s0 : Nat) : dPF (m4_init x0 s0) 25 4 2 28 := ⟨18, (show decode cX4_init 25 = .ok (.putfield 18, 3) by decide +kernel), t_166, ⟨by decide, by decide⟩, rfl⟩
theorem r4_init_28 (x0 s0 : Nat) : dAL (m4_init x0 s0) 28 0 29 := Or.inl ⟨0, (show decode cX4_init 28 = .ok (.aload_n 0, 1) by decide +kernel), rfl, rfl⟩
theorem r4_init_29 (x0 s0 : Nat) : dKI (m4_init x0 s0) 29 30 31 := Or.inr (Or.inl ⟨30, (show decode cX4_init 29 = .ok (.bipush 30, 2) by decide +kernel), rfl, rfl⟩)
theorem r4_init_31 (x0 s0 : Nat) : dNA (m4_init x0 s0) 31 .int 33 := ⟨(show decode cX4_init 31 = .ok (.newarray .int, 2) by decide +kernel), t_139, rfl⟩
theorem r4_init_33 (x0 s0 : Nat) : dPF (m4_init x0 s0) 33 4 3 36 := ⟨21, (show decode cX4_init 33 = .ok (.putfield 21, 3) by decide +kernel), t_168, ⟨by decide, by decide⟩, rfl⟩
theorem r4_init_36 (x0 s0 : Nat) : dAL (m4_init x0 s0) 36 0 37 := Or.inl ⟨0, (show decode cX4_init 36 = .ok (.aload_n 0, 1) by decide +kernel), rfl, rfl⟩
theorem r4_init_37 (x0 s0 : Nat) : dKI (m4_init x0 s0) 37 30 39 := Or.inr (Or.inl ⟨30, (show decode cX4_init 37 = .ok (.bipush 30, 2) by decide +kernel), rfl, rfl⟩)
theorem r4_init_39 (x0 s0 : Nat) : dNA (m4_init x0 s0) 39 .int 41 := ⟨(show decode cX4_init 39 = .ok (.newarray .int, 2) by decide +kernel), t_139, rfl⟩
theorem r4_init_41 (x0 s0 : Nat) : dPF (m4_init x0 s0) 41 4 4 44 := ⟨24, (show decode cX4_init 41 = .ok (.putfield 24, 3) by decide +kernel), t_170, ⟨by decide, by decide⟩, rfl⟩
theorem r4_init_44 (x0 s0 : Nat) : dAL (m4_init x0 s0) 44 0 45 := Or.inl ⟨0, (show decode cX4_init 44 = .ok (.aload_n 0, 1) by decide +kernel), rfl, rfl⟩
theorem r4_init_45 (x0 s0 : Nat) : dKI (m4_init x0 s0) 45 30 47 := Or.inr (Or.inl ⟨30, (show decode cX4_init 45 = .ok (.bipush 30, 2) by decide +kernel), rfl, rfl⟩)
theorem r4_init_47 (x0 s0 : Nat) : dNA (m4_init x0 s0) 47 .int 49 := ⟨(show decode cX4_init 47 = .ok (.newarray .int, 2) by decide +kernel), t_139, rfl⟩
theorem r4_init_49 (x0 s0 : Nat) : dPF (m4_init x0 s0) 49 4 5 52 := ⟨27, (show decode cX4_init 49 = .ok (.putfield 27, 3) by decide +kernel), t_172, ⟨by decide, by decide⟩, rfl⟩
theorem r4_init_52 (x0 s0 : Nat) : dAL (m4_init x0 s0) 52 0 53 := Or.inl ⟨0, (show decode cX4_init 52 = .ok (.aload_n 0, 1) by decide +kernel), rfl, rfl⟩
theorem r4_init_53 (x0 s0 : Nat) : dKI (m4_init x0 s0) 53 10 55 := Or.inr (Or.inl ⟨10, (show decode cX4_init 53 = .ok (.bipush 10, 2) by decide +kernel), rfl, rfl⟩)
theorem r4_init_55 (x0 s0 : Nat) : dNA (m4_init x0 s0) 55 .int 57 := ⟨(show decode cX4_init 55 = .ok (.newarray .int, 2) by decide +kernel), t_139, rfl⟩
theorem r4_init_57 (x0 s0 : Nat) : dPF (m4_init x0 s0) 57 4 6 60 := ⟨30, (show decode cX4_init 57 = .ok (.putfield 30, 3) by decide +kernel), t_174, ⟨by decide, by decide⟩, rfl⟩
theorem r4_init_60 (x0 s0 : Nat) : dAL (m4_init x0 s0) 60 0 61 := Or.inl ⟨0, (show decode cX4_init 60 = .ok (.aload_n 0, 1) by decide +kernel), rfl, rfl⟩
theorem r4_init_61 (x0 s0 : Nat) : dKI (m4_init x0 s0) 61 30 63 := Or.inr (Or.inl ⟨30, (show decode cX4_init 61 = .ok (.bipush 30, 2) by decide +kernel), rfl, rfl⟩)
theorem r4_init_63 (x0 s0 : Nat) : dNA (m4_init x0 s0) 63 .int 65 := ⟨(show decode cX4_init 63 = .ok (.newarray .int, 2) by decide +kernel), t_139, rfl⟩
theorem r4_init_65 (x0 s0 : Nat) : dPF (m4_init x0 s0) 65 4 7 68 := ⟨33, (show decode cX4_init 65 = .ok (.putfield 33, 3) by decide +kernel), t_176, ⟨by decide, by decide⟩, rfl⟩
theorem r4_init_68 (x0 s0 : Nat) : dAL (m4_init x0 s0) 68 0 69 := Or.inl ⟨0, (show decode cX4_init 68 = .ok (.aload_n 0, 1) by decide +kernel), rfl, rfl⟩
theorem r4_init_69 (x0 s0 : Nat) : dKI (m4_init x0 s0) 69 30 71 := Or.inr (Or.inl ⟨30, (show decode cX4_init 69 = .ok (.bipush 30, 2) by decide +kernel), rfl, rfl⟩)
theorem r4_init_71 (x0 s0 : Nat) : dNA (m4_init x0 s0) 71 .int 73 := ⟨(show decode cX4_init 71 = .ok (.newarray .int, 2) by decide +kernel), t_139, rfl⟩
theorem r4_init_73 (x0 s0 : Nat) : dPF (m4_init x0 s0) 73 4 8 76 := ⟨36, (show decode cX4_init 73 = .ok (.putfield 36, 3) by decide +kernel), t_177, ⟨by decide, by decide⟩, rfl⟩
theorem r4_init_76 (x0 s0 : Nat) : dAL (m4_init x0 s0) 76 0 77 := Or.inl ⟨0, (show decode cX4_init 76 = .ok (.aload_n 0, 1) by decide +kernel), rfl, rfl⟩
theorem r4_init_77 (x0 s0 : Nat) : dKI (m4_init x0 s0) 77 30 79 := Or.inr (Or.inl ⟨30, (show decode cX4_init 77 = .ok (.bipush 30, 2) by decide +kernel), rfl, rfl⟩)
theorem r4_init_79 (x0 s0 : Nat) : dNA (m4_init x0 s0) 79 .int 81 := ⟨(show decode cX4_init 79 = .ok (.newarray .int, 2) by decide +kernel), t_139, rfl⟩
theorem r4_init_81 (x0 s0 : Nat) : dPF (m4_init x0 s0) 81 4 9 84 := ⟨39, (show decode cX4_init 81 = .ok (.putfield 39, 3) by decide +kernel), t_178, ⟨by decide, by decide⟩, rfl⟩
theorem r4_init_84 (x0 s0 : Nat) : dAL (m4_init x0 s0) 84 0 85 := Or.inl ⟨0, (show decode cX4_init 84 = .ok (.aload_n 0, 1) by decide +kernel), rfl, rfl⟩
theorem r4_init_85 (x0 s0 : Nat) : dKI (m4_init x0 s0) 85 30 87 := Or.inr (Or.inl ⟨30, (show decode cX4_init 85 = .ok (.bipush 30, 2) by decide +kernel), rfl, rfl⟩)
theorem r4_init_87 (x0 s0 : Nat) : dNA (m4_init x0 s0) 87 .int 89 := ⟨(show decode cX4_init 87 = .ok (.newarray .int, 2) by decide +kernel), t_139, rfl⟩
theorem r4_init_89 (x0 s0 : Nat) : dPF (m4_init x0 s0) 89 4 10 92 := ⟨42, (show decode cX4_init 89 = .ok (.putfield 42, 3) by decide +kernel), t_179, ⟨by decide, by decide⟩, rfl⟩
theorem r4_init_92 (x0 s0 : Nat) : dAL (m4_init x0 s0) 92 0 93 := Or.inl ⟨0, (show decode cX4_init 92 = .ok (.aload_n 0, 1) by decide +kernel), rfl, rfl⟩
theorem r4_init_93 (x0 s0 : Nat) : dKI (m4_init x0 s0) 93 30 95 := Or.inr (Or.inl ⟨30, (show decode cX4_init 93 = .ok (.bipush 30, 2) by decide +kernel), rfl, rfl⟩)
theorem r4_init_95 (x0 s0 : Nat) : dNA (m4_init x0 s0) 95 .int 97 := ⟨(show decode cX4_init 95 = .ok (.newarray .int, 2) by decide +kernel), t_139, rfl⟩
theorem r4_init_97 (x0 s0 : Nat) : dPF (m4_init x0 s0) 97 4 11 100 := ⟨45, (show decode cX4_init 97 = .ok (.putfield 45, 3) by decide +kernel), t_180, ⟨by decide, by decide⟩, rfl⟩
theorem r4_init_100 (x0 s0 : Nat) : dO (m4_init x0 s0) 100 .return_ 101 := ⟨(show decode cX4_init 100 = .ok (.return_, 1) by decide +kernel), rfl⟩
theorem r4_begin_0 : dAL m4_begin 0 0 1 := Or.inl ⟨0, by decide +kernel, rfl, rfl⟩
theorem r4_begin_1 : dKI m4_begin 1 0 2 := Or.inl ⟨0, by decide +kernel, rfl, rfl⟩
theorem r4_begin_2 : dPF m4_begin 2 4 12 5 := ⟨48, by decide +kernel, t_181, ⟨by decide, by decide⟩, rfl⟩
theorem r4_begin_5 : dAL m4_begin 5 0 6 := Or.inl ⟨0, by decide +kernel, rfl, rfl⟩
theorem r4_begin_6 : dKI m4_begin 6 0 7 := Or.inl ⟨0, by decide +kernel, rfl, rfl⟩
theorem r4_begin_7 : dPF m4_begin 7 4 13 10 := ⟨52, by decide +kernel, t_183, ⟨by decide, by decide⟩, rfl⟩
theorem r4_begin_10 : dAL m4_begin 10 0 11 := Or.inl ⟨0, by decide +kernel, rfl, rfl⟩
theorem r4_begin_11 : dIL m4_begin 11 1 12 := Or.inl ⟨1, by decide +kernel, rfl, rfl⟩
theorem r4_begin_12 : dPF m4_begin 12 4 15 15 := ⟨55, by decide +kernel, t_187, ⟨by decide, by decide⟩, rfl⟩
theorem r4_begin_15 : dAL m4_begin 15 0 16 := Or.inl ⟨0, by decide +kernel, rfl, rfl⟩
theorem r4_begin_16 : dIL m4_begin 16 1 17 := Or.inl ⟨1, by decide +kernel, rfl, rfl⟩
theorem r4_begin_17 : dPF m4_begin 17 4 14 20 := ⟨58, by decide +kernel, t_185, ⟨by decide, by decide⟩, rfl⟩
theorem r4_begin_20 : dKI m4_begin 20 0 21 := Or.inl ⟨0, by decide +kernel, rfl, rfl⟩
theorem r4_begin_21 : dIS m4_begin 21 2 22 := ⟨Or.inl ⟨2, by decide +kernel, rfl, rfl⟩, Nat.le_of_ble_eq_true rfl⟩
theorem r4_begin_22 : dIL m4_begin 22 2 23 := Or.inl ⟨2, by decide +kernel, rfl, rfl⟩
theorem r4_begin_23 : dKI m4_begin 23 10 25 := Or.inr (Or.inl ⟨10, by decide +kernel, rfl, rfl⟩)
theorem r4_begin_25 : dJ m4_begin 25 (.if_icmp .ge) 28 41 := ⟨16, by decide +kernel, rfl, rfl⟩
theorem r4_begin_28 : dAL m4_begin 28 0 29 := Or.inl ⟨0, by decide +kernel, rfl, rfl⟩
theorem r4_begin_29 : dGF m4_begin 29 4 6 32 := ⟨30, by decide +kernel, t_174, ⟨by decide, by decide⟩, rfl⟩
theorem r4_begin_32 : dIL m4_begin 32 2 33 := Or.inl ⟨2, by decide +kernel, rfl, rfl⟩
theorem r4_begin_33 : dKI m4_begin 33 0 34 := Or.inl ⟨0, by decide +kernel, rfl, rfl⟩
theorem r4_begin_34 : dO m4_begin 34 .iastore 35 := ⟨by decide +kernel, rfl⟩
theorem r4_begin_35 : dII m4_begin 35 2 1 38 := ⟨1, by decide +kernel, rfl, rfl, Nat.le_of_ble_eq_true rfl⟩
theorem r4_begin_38 : dJ m4_begin 38 .goto 41 22 := ⟨(-16), by decide +kernel, rfl, rfl⟩
theorem r4_begin_41 : dO m4_begin 41 .return_ 42 := ⟨by decide +kernel, rfl⟩
theorem r4_addAct_0 : dAL m4_addAct 0 0 1 := Or.inl ⟨0, by decide +kernel, rfl, rfl⟩
theorem r4_addAct_1 : dGF m4_addAct 1 4 12 4 := ⟨48, by decide +kernel, t_181, ⟨by decide, by decide⟩, rfl⟩
theorem r4_addAct_4 : dKI m4_addAct 4 30 6 := Or.inr (Or.inl ⟨30, by decide +kernel, rfl, rfl⟩)
theorem r4_addAct_6 : dJ m4_addAct 6 (.if_icmp .ge) 9 19 := ⟨13, by decide +kernel, rfl, rfl⟩
theorem r4_addAct_9 : dIL m4_addAct 9 2 10 := Or.inl ⟨2, by decide +kernel, rfl, rfl⟩
theorem r4_addAct_10 : dJ m4_addAct 10 (.ifCond .lt) 13 19 := ⟨9, by decide +kernel, rfl, rfl⟩
theorem r4_addAct_13 : dIL m4_addAct 13 2 14 := Or.inl ⟨2, by decide +kernel, rfl, rfl⟩
theorem r4_addAct_14 : dKI m4_addAct 14 10 16 := Or.inr (Or.inl ⟨10, by decide +kernel, rfl, rfl⟩)
theorem r4_addAct_16 : dJ m4_addAct 16 (.if_icmp .lt) 19 20 := ⟨4, by decide +kernel, rfl, rfl⟩
theorem r4_addAct_19 : dO m4_addAct 19 .return_ 20 := ⟨by decide +kernel, rfl⟩
theorem r4_addAct_20 : dAL m4_addAct 20 0 21 := Or.inl ⟨0, by decide +kernel, rfl, rfl⟩
theorem r4_addAct_21 : dGF m4_addAct 21 4 0 24 := ⟨9, by decide +kernel, t_162, ⟨by decide, by decide⟩, rfl⟩
theorem r4_addAct_24 : dAL m4_addAct 24 0 25 := Or.inl ⟨0, by decide +kernel, rfl, rfl⟩
theorem r4_addAct_25 : dGF m4_addAct 25 4 12 28 := ⟨48, by decide +kernel, t_181, ⟨by decide, by decide⟩, rfl⟩
theorem r4_addAct_28 : dIL m4_addAct 28 2 29 := Or.inl ⟨2, by decide +kernel, rfl, rfl⟩
theorem r4_addAct_29 : dO m4_addAct 29 .iastore 30 := ⟨by decide +kernel, rfl⟩
theorem r4_addAct_30 : dAL m4_addAct 30 0 31 := Or.inl ⟨0, by decide +kernel, rfl, rfl⟩
theorem r4_addAct_31 : dGF m4_addAct 31 4 1 34 := ⟨15, by decide +kernel, t_164, ⟨by decide, by decide⟩, rfl⟩
theorem r4_addAct_34 : dAL m4_addAct 34 0 35 := Or.inl ⟨0, by decide +kernel, rfl, rfl⟩
theorem r4_addAct_35 : dGF m4_addAct 35 4 12 38 := ⟨48, by decide +kernel, t_181, ⟨by decide, by decide⟩, rfl⟩
theorem r4_addAct_38 : dKI m4_addAct 38 (-1) 39 := Or.inl ⟨(-1), by decide +kernel, rfl, rfl⟩
theorem r4_addAct_39 : dO m4_addAct 39 .iastore 40 := ⟨by decide +kernel, rfl⟩
theorem r4_addAct_40 : dAL m4_addAct 40 0 41 := Or.inl ⟨0, by decide +kernel, rfl, rfl⟩
theorem r4_addAct_41 : dGF m4_addAct 41 4 7 44 := ⟨33, by decide +kernel, t_176, ⟨by decide, by decide⟩, rfl⟩
theorem r4_addAct_44 : dAL m4_addAct 44 0 45 := Or.inl ⟨0, by decide +kernel, rfl, rfl⟩
theorem r4_addAct_45 : dGF m4_addAct 45 4 12 48 := ⟨48, by decide +kernel, t_181, ⟨by decide, by decide⟩, rfl⟩
theorem r4_addAct_48 : dAL m4_addAct 48 1 49 := Or.inl ⟨1, by decide +kernel, rfl, rfl⟩
theorem r4_addAct_49 : dGF m4_addAct 49 5 5 52 := ⟨61, by decide +kernel, t_292, ⟨by decide, by decide⟩, rfl⟩
theorem r4_addAct_52 : dIL m4_addAct 52 2 53 := Or.inl ⟨2, by decide +kernel, rfl, rfl⟩
theorem r4_addAct_53 : dO m4_addAct 53 .iaload 54 := ⟨by decide +kernel, rfl⟩
theorem r4_addAct_54 : dO m4_addAct 54 .iastore 55 := ⟨by decide +kernel, rfl⟩
theorem r4_addAct_55 : dAL m4_addAct 55 0 56 := Or.inl ⟨0, by decide +kernel, rfl, rfl⟩
theorem r4_addAct_56 : dGF m4_addAct 56 4 8 59 := ⟨36, by decide +kernel, t_177, ⟨by decide, by decide⟩, rfl⟩
theorem r4_addAct_59 : dAL m4_addAct 59 0 60 := Or.inl ⟨0, by decide +kernel, rfl, rfl⟩
theorem r4_addAct_60 : dGF m4_addAct 60 4 12 63 := ⟨48, by decide +kernel, t_181, ⟨by decide, by decide⟩, rfl⟩
theorem r4_addAct_63 : dAL m4_addAct 63 1 64 := Or.inl ⟨1, by decide +kernel, rfl, rfl⟩
theorem r4_addAct_64 : dGF m4_addAct 64 5 6 67 := ⟨64, by decide +kernel, t_298, ⟨by decide, by decide⟩, rfl⟩
theorem r4_addAct_67 : dIL m4_addAct 67 2 68 := Or.inl ⟨2, by decide +kernel, rfl, rfl⟩
theorem r4_addAct_68 : dO m4_addAct 68 .iaload 69 := ⟨by decide +kernel, rfl⟩
theorem r4_addAct_69 : dO m4_addAct 69 .iastore 70 := ⟨by decide +kernel, rfl⟩
theorem r4_addAct_70 : dAL m4_addAct 70 0 71 := Or.inl ⟨0, by decide +kernel, rfl, rfl⟩
theorem r4_addAct_71 : dGF m4_addAct 71 4 9 74 := ⟨39, by decide +kernel, t_178, ⟨by decide, by decide⟩, rfl⟩
theorem r4_addAct_74 : dAL m4_addAct 74 0 75 := Or.inl ⟨0, by decide +kernel, rfl, rfl⟩
theorem r4_addAct_75 : dGF m4_addAct 75 4 12 78 := ⟨48, by decide +kernel, t_181, ⟨by decide, by decide⟩, rfl⟩
theorem r4_addAct_78 : dAL m4_addAct 78 1 79 := Or.inl ⟨1, by decide +kernel, rfl, rfl⟩
theorem r4_addAct_79 : dGF m4_addAct 79 5 7 82 := ⟨65, by decide +kernel, t_305, ⟨by decide, by decide⟩, rfl⟩
theorem r4_addAct_82 : dIL m4_addAct 82 2 83 := Or.inl ⟨2, by decide +kernel, rfl, rfl⟩
theorem r4_addAct_83 : dO m4_addAct 83 .iaload 84 := ⟨by decide +kernel, rfl⟩
theorem r4_addAct_84 : dO m4_addAct 84 .iastore 85 := ⟨by decide +kernel, rfl⟩
theorem r4_addAct_85 : dAL m4_addAct 85 0 86 := Or.inl ⟨0, by decide +kernel, rfl, rfl⟩
theorem r4_addAct_86 : dGF m4_addAct 86 4 10 89 := ⟨42, by decide +kernel, t_179, ⟨by decide, by decide⟩, rfl⟩
theorem r4_addAct_89 : dAL m4_addAct 89 0 90 := Or.inl ⟨0, by decide +kernel, rfl, rfl⟩
theorem r4_addAct_90 : dGF m4_addAct 90 4 12 93 := ⟨48, by decide +kernel, t_181, ⟨by decide, by decide⟩, rfl⟩
theorem r4_addAct_93 : dAL m4_addAct 93 1 94 := Or.inl ⟨1, by decide +kernel, rfl, rfl⟩
theorem r4_addAct_94 : dGF m4_addAct 94 5 8 97 := ⟨66, by decide +kernel, t_311, ⟨by decide, by decide⟩, rfl⟩
theorem r4_addAct_97 : dIL m4_addAct 97 2 98 := Or.inl ⟨2, by decide +kernel, rfl, rfl⟩
theorem r4_addAct_98 : dO m4_addAct 98 .iaload 99 := ⟨by decide +kernel, rfl⟩
theorem r4_addAct_99 : dO m4_addAct 99 .iastore 100 := ⟨by decide +kernel, rfl⟩
theorem r4_addAct_100 : dAL m4_addAct 100 0 101 := Or.inl ⟨0, by decide +kernel, rfl, rfl⟩
theorem r4_addAct_101 : dGF m4_addAct 101 4 6 104 := ⟨30, by decide +kernel, t_174, ⟨by decide, by decide⟩, rfl⟩
theorem r4_addAct_104 : dIL m4_addAct 104 2 105 := Or.inl ⟨2, by decide +kernel, rfl, rfl⟩
theorem r4_addAct_105 : dO m4_addAct 105 .dup2 106 := ⟨by decide +kernel, rfl⟩
theorem r4_addAct_106 : dO m4_addAct 106 .iaload 107 := ⟨by decide +kernel, rfl⟩
theorem r4_addAct_107 : dKI m4_addAct 107 1 108 := Or.inl ⟨1, by decide +kernel, rfl, rfl⟩
theorem r4_addAct_108 : dO m4_addAct 108 .iadd 109 := ⟨by decide +kernel, rfl⟩
theorem r4_addAct_109 : dO m4_addAct 109 .iastore 110 := ⟨by decide +kernel, rfl⟩
theorem r4_addAct_110 : dAL m4_addAct 110 0 111 := Or.inl ⟨0, by decide +kernel, rfl, rfl⟩
theorem r4_addAct_111 : dCV m4_addAct 111 m4_closeStep 114 := ⟨67, by decide +kernel, t_562, Nat.le_of_ble_eq_true rfl, rfl⟩
theorem r4_addAct_114 : dO m4_addAct 114 .return_ 115 := ⟨by decide +kernel, rfl⟩
theorem r4_addFate_0 : dAL m4_addFate 0 0 1 := Or.inl ⟨0, by decide +kernel, rfl, rfl⟩
theorem r4_addFate_1 : dGF m4_addFate 1 4 12 4 := ⟨48, by decide +kernel, t_181, ⟨by decide, by decide⟩, rfl⟩
theorem r4_addFate_4 : dKI m4_addFate 4 30 6 := Or.inr (Or.inl ⟨30, by decide +kernel, rfl, rfl⟩)
theorem r4_addFate_6 : dJ m4_addFate 6 (.if_icmp .lt) 9 10 := ⟨4, by decide +kernel, rfl, rfl⟩
theorem r4_addFate_9 : dO m4_addFate 9 .return_ 10 := ⟨by decide +kernel, rfl⟩
theorem r4_addFate_10 : dKI m4_addFate 10 1 11 := Or.inl ⟨1, by decide +kernel, rfl, rfl⟩
theorem r4_addFate_11 : dIL m4_addFate 11 1 12 := Or.inl ⟨1, by decide +kernel, rfl, rfl⟩
theorem r4_addFate_12 : dO m4_addFate 12 .ishl 13 := ⟨by decide +kernel, rfl⟩
theorem r4_addFate_13 : dIS m4_addFate 13 2 14 := ⟨Or.inl ⟨2, by decide +kernel, rfl, rfl⟩, Nat.le_of_ble_eq_true rfl⟩
theorem r4_addFate_14 : dAL m4_addFate 14 0 15 := Or.inl ⟨0, by decide +kernel, rfl, rfl⟩
theorem r4_addFate_15 : dGF m4_addFate 15 4 0 18 := ⟨9, by decide +kernel, t_162, ⟨by decide, by decide⟩, rfl⟩
theorem r4_addFate_18 : dAL m4_addFate 18 0 19 := Or.inl ⟨0, by decide +kernel, rfl, rfl⟩
theorem r4_addFate_19 : dGF m4_addFate 19 4 12 22 := ⟨48, by decide +kernel, t_181, ⟨by decide, by decide⟩, rfl⟩
theorem r4_addFate_22 : dKI m4_addFate 22 (-1) 23 := Or.inl ⟨(-1), by decide +kernel, rfl, rfl⟩
theorem r4_addFate_23 : dO m4_addFate 23 .iastore 24 := ⟨by decide +kernel, rfl⟩
theorem r4_addFate_24 : dAL m4_addFate 24 0 25 := Or.inl ⟨0, by decide +kernel, rfl, rfl⟩
theorem r4_addFate_25 : dGF m4_addFate 25 4 1 28 := ⟨15, by decide +kernel, t_164, ⟨by decide, by decide⟩, rfl⟩
theorem r4_addFate_28 : dAL m4_addFate 28 0 29 := Or.inl ⟨0, by decide +kernel, rfl, rfl⟩
theorem r4_addFate_29 : dGF m4_addFate 29 4 12 32 := ⟨48, by decide +kernel, t_181, ⟨by decide, by decide⟩, rfl⟩
theorem r4_addFate_32 : dIL m4_addFate 32 1 33 := Or.inl ⟨1, by decide +kernel, rfl, rfl⟩
theorem r4_addFate_33 : dO m4_addFate 33 .iastore 34 := ⟨by decide +kernel, rfl⟩
theorem r4_addFate_34 : dAL m4_addFate 34 0 35 := Or.inl ⟨0, by decide +kernel, rfl, rfl⟩
theorem r4_addFate_35 : dGF m4_addFate 35 4 7 38 := ⟨33, by decide +kernel, t_176, ⟨by decide, by decide⟩, rfl⟩
theorem r4_addFate_38 : dAL m4_addFate 38 0 39 := Or.inl ⟨0, by decide +kernel, rfl, rfl⟩
theorem r4_addFate_39 : dGF m4_addFate 39 4 12 42 := ⟨48, by decide +kernel, t_181, ⟨by decide, by decide⟩, rfl⟩
theorem r4_addFate_42 : dKI m4_addFate 42 0 43 := Or.inl ⟨0, by decide +kernel, rfl, rfl⟩
theorem r4_addFate_43 : dO m4_addFate 43 .iastore 44 := ⟨by decide +kernel, rfl⟩
theorem r4_addFate_44 : dAL m4_addFate 44 0 45 := Or.inl ⟨0, by decide +kernel, rfl, rfl⟩
theorem r4_addFate_45 : dGF m4_addFate 45 4 8 48 := ⟨36, by decide +kernel, t_177, ⟨by decide, by decide⟩, rfl⟩
theorem r4_addFate_48 : dAL m4_addFate 48 0 49 := Or.inl ⟨0, by decide +kernel, rfl, rfl⟩
theorem r4_addFate_49 : dGF m4_addFate 49 4 12 52 := ⟨48, by decide +kernel, t_181, ⟨by decide, by decide⟩, rfl⟩
theorem r4_addFate_52 : dKI m4_addFate 52 0 53 := Or.inl ⟨0, by decide +kernel, rfl, rfl⟩
theorem r4_addFate_53 : dO m4_addFate 53 .iastore 54 := ⟨by decide +kernel, rfl⟩
theorem r4_addFate_54 : dAL m4_addFate 54 0 55 := Or.inl ⟨0, by decide +kernel, rfl, rfl⟩
theorem r4_addFate_55 : dGF m4_addFate 55 4 9 58 := ⟨39, by decide +kernel, t_178, ⟨by decide, by decide⟩, rfl⟩
theorem r4_addFate_58 : dAL m4_addFate 58 0 59 := Or.inl ⟨0, by decide +kernel, rfl, rfl⟩
theorem r4_addFate_59 : dGF m4_addFate 59 4 12 62 := ⟨48, by decide +kernel, t_181, ⟨by decide, by decide⟩, rfl⟩
theorem r4_addFate_62 : dIL m4_addFate 62 2 63 := Or.inl ⟨2, by decide +kernel, rfl, rfl⟩
theorem r4_addFate_63 : dAL m4_addFate 63 0 64 := Or.inl ⟨0, by decide +kernel, rfl, rfl⟩
theorem r4_addFate_64 : dGF m4_addFate 64 4 14 67 := ⟨58, by decide +kernel, t_185, ⟨by decide, by decide⟩, rfl⟩
theorem r4_addFate_67 : dKI m4_addFate 67 (-1) 68 := Or.inl ⟨(-1), by decide +kernel, rfl, rfl⟩
theorem r4_addFate_68 : dO m4_addFate 68 .ixor 69 := ⟨by decide +kernel, rfl⟩
theorem r4_addFate_69 : dO m4_addFate 69 .iand 70 := ⟨by decide +kernel, rfl⟩
theorem r4_addFate_70 : dO m4_addFate 70 .iastore 71 := ⟨by decide +kernel, rfl⟩
theorem r4_addFate_71 : dAL m4_addFate 71 0 72 := Or.inl ⟨0, by decide +kernel, rfl, rfl⟩
theorem r4_addFate_72 : dGF m4_addFate 72 4 10 75 := ⟨42, by decide +kernel, t_179, ⟨by decide, by decide⟩, rfl⟩
theorem r4_addFate_75 : dAL m4_addFate 75 0 76 := Or.inl ⟨0, by decide +kernel, rfl, rfl⟩
theorem r4_addFate_76 : dGF m4_addFate 76 4 12 79 := ⟨48, by decide +kernel, t_181, ⟨by decide, by decide⟩, rfl⟩
theorem r4_addFate_79 : dIL m4_addFate 79 2 80 := Or.inl ⟨2, by decide +kernel, rfl, rfl⟩
theorem r4_addFate_80 : dAL m4_addFate 80 0 81 := Or.inl ⟨0, by decide +kernel, rfl, rfl⟩
theorem r4_addFate_81 : dGF m4_addFate 81 4 14 84 := ⟨58, by decide +kernel, t_185, ⟨by decide, by decide⟩, rfl⟩
theorem r4_addFate_84 : dO m4_addFate 84 .iand 85 := ⟨by decide +kernel, rfl⟩
theorem r4_addFate_85 : dO m4_addFate 85 .iastore 86 := ⟨by decide +kernel, rfl⟩
theorem r4_addFate_86 : dAL m4_addFate 86 0 87 := Or.inl ⟨0, by decide +kernel, rfl, rfl⟩
theorem r4_addFate_87 : dCV m4_addFate 87 m4_closeStep 90 := ⟨67, by decide +kernel, t_562, Nat.le_of_ble_eq_true rfl, rfl⟩
theorem r4_addFate_90 : dO m4_addFate 90 .return_ 91 := ⟨by decide +kernel, rfl⟩
theorem r4_closeStep_0 : dAL m4_closeStep 0 0 1 := Or.inl ⟨0, by decide +kernel, rfl, rfl⟩
theorem r4_closeStep_1 : dAL m4_closeStep 1 0 2 := Or.inl ⟨0, by decide +kernel, rfl, rfl⟩
theorem r4_closeStep_2 : dGF m4_closeStep 2 4 14 5 := ⟨58, by decide +kernel, t_185, ⟨by decide, by decide⟩, rfl⟩
theorem r4_closeStep_5 : dAL m4_closeStep 5 0 6 := Or.inl ⟨0, by decide +kernel, rfl, rfl⟩
theorem r4_closeStep_6 : dGF m4_closeStep 6 4 9 9 := ⟨39, by decide +kernel, t_178, ⟨by decide, by decide⟩, rfl⟩
theorem r4_closeStep_9 : dAL m4_closeStep 9 0 10 := Or.inl ⟨0, by decide +kernel, rfl, rfl⟩
theorem r4_closeStep_10 : dGF m4_closeStep 10 4 12 13 := ⟨48, by decide +kernel, t_181, ⟨by decide, by decide⟩, rfl⟩
theorem r4_closeStep_13 : dO m4_closeStep 13 .iaload 14 := ⟨by decide +kernel, rfl⟩
theorem r4_closeStep_14 : dAL m4_closeStep 14 0 15 := Or.inl ⟨0, by decide +kernel, rfl, rfl⟩
theorem r4_closeStep_15 : dGF m4_closeStep 15 4 10 18 := ⟨42, by decide +kernel, t_179, ⟨by decide, by decide⟩, rfl⟩
theorem r4_closeStep_18 : dAL m4_closeStep 18 0 19 := Or.inl ⟨0, by decide +kernel, rfl, rfl⟩
theorem r4_closeStep_19 : dGF m4_closeStep 19 4 12 22 := ⟨48, by decide +kernel, t_181, ⟨by decide, by decide⟩, rfl⟩
theorem r4_closeStep_22 : dO m4_closeStep 22 .iaload 23 := ⟨by decide +kernel, rfl⟩
theorem r4_closeStep_23 : dCS m4_closeStep 23 m6_changed 26 := Or.inr ⟨70, "WantPlots", by decide +kernel, tn_566, Nat.le_of_ble_eq_true rfl, rfl⟩
theorem r4_closeStep_26 : dPF m4_closeStep 26 4 14 29 := ⟨58, by decide +kernel, t_185, ⟨by decide, by decide⟩, rfl⟩
theorem r4_closeStep_29 : dAL m4_closeStep 29 0 30 := Or.inl ⟨0, by decide +kernel, rfl, rfl⟩
theorem r4_closeStep_30 : dGF m4_closeStep 30 4 3 33 := ⟨21, by decide +kernel, t_168, ⟨by decide, by decide⟩, rfl⟩
theorem r4_closeStep_33 : dAL m4_closeStep 33 0 34 := Or.inl ⟨0, by decide +kernel, rfl, rfl⟩
theorem r4_closeStep_34 : dGF m4_closeStep 34 4 12 37 := ⟨48, by decide +kernel, t_181, ⟨by decide, by decide⟩, rfl⟩
theorem r4_closeStep_37 : dAL m4_closeStep 37 0 38 := Or.inl ⟨0, by decide +kernel, rfl, rfl⟩
theorem r4_closeStep_38 : dGF m4_closeStep 38 4 14 41 := ⟨58, by decide +kernel, t_185, ⟨by decide, by decide⟩, rfl⟩
theorem r4_closeStep_41 : dO m4_closeStep 41 .iastore 42 := ⟨by decide +kernel, rfl⟩
theorem r4_closeStep_42 : dAL m4_closeStep 42 0 43 := Or.inl ⟨0, by decide +kernel, rfl, rfl⟩
theorem r4_closeStep_43 : dGF m4_closeStep 43 4 2 46 := ⟨18, by decide +kernel, t_166, ⟨by decide, by decide⟩, rfl⟩
theorem r4_closeStep_46 : dAL m4_closeStep 46 0 47 := Or.inl ⟨0, by decide +kernel, rfl, rfl⟩
theorem r4_closeStep_47 : dGF m4_closeStep 47 4 12 50 := ⟨48, by decide +kernel, t_181, ⟨by decide, by decide⟩, rfl⟩
theorem r4_closeStep_50 : dAL m4_closeStep 50 0 51 := Or.inl ⟨0, by decide +kernel, rfl, rfl⟩
theorem r4_closeStep_51 : dGF m4_closeStep 51 4 13 54 := ⟨52, by decide +kernel, t_183, ⟨by decide, by decide⟩, rfl⟩
theorem r4_closeStep_54 : dO m4_closeStep 54 .iastore 55 := ⟨by decide +kernel, rfl⟩
theorem r4_closeStep_55 : dAL m4_closeStep 55 0 56 := Or.inl ⟨0, by decide +kernel, rfl, rfl⟩
theorem r4_closeStep_56 : dAL m4_closeStep 56 0 57 := Or.inl ⟨0, by decide +kernel, rfl, rfl⟩
theorem r4_closeStep_57 : dGF m4_closeStep 57 4 12 60 := ⟨48, by decide +kernel, t_181, ⟨by decide, by decide⟩, rfl⟩
theorem r4_closeStep_60 : dCV m4_closeStep 60 m4_linkBack 63 := ⟨74, by decide +kernel, t_567, Nat.le_of_ble_eq_true rfl, rfl⟩
theorem r4_closeStep_63 : dAL m4_closeStep 63 0 64 := Or.inl ⟨0, by decide +kernel, rfl, rfl⟩
theorem r4_closeStep_64 : dAL m4_closeStep 64 0 65 := Or.inl ⟨0, by decide +kernel, rfl, rfl⟩
theorem r4_closeStep_65 : dGF m4_closeStep 65 4 12 68 := ⟨48, by decide +kernel, t_181, ⟨by decide, by decide⟩, rfl⟩
theorem r4_closeStep_68 : dCV m4_closeStep 68 m4_sortIntoThread 71 := ⟨78, by decide +kernel, t_571, Nat.le_of_ble_eq_true rfl, rfl⟩
theorem r4_closeStep_71 : dAL m4_closeStep 71 0 72 := Or.inl ⟨0, by decide +kernel, rfl, rfl⟩
theorem r4_closeStep_72 : dO m4_closeStep 72 .dup 73 := ⟨by decide +kernel, rfl⟩
theorem r4_closeStep_73 : dGF m4_closeStep 73 4 12 76 := ⟨48, by decide +kernel, t_181, ⟨by decide, by decide⟩, rfl⟩
theorem r4_closeStep_76 : dKI m4_closeStep 76 1 77 := Or.inl ⟨1, by decide +kernel, rfl, rfl⟩
theorem r4_closeStep_77 : dO m4_closeStep 77 .iadd 78 := ⟨by decide +kernel, rfl⟩
theorem r4_closeStep_78 : dPF m4_closeStep 78 4 12 81 := ⟨48, by decide +kernel, t_181, ⟨by decide, by decide⟩, rfl⟩
theorem r4_closeStep_81 : dO m4_closeStep 81 .return_ 82 := ⟨by decide +kernel, rfl⟩
theorem r4_linkBack_0 : dAL m4_linkBack 0 0 1 := Or.inl ⟨0, by decide +kernel, rfl, rfl⟩
theorem r4_linkBack_1 : dGF m4_linkBack 1 4 7 4 := ⟨33, by decide +kernel, t_176, ⟨by decide, by decide⟩, rfl⟩
theorem r4_linkBack_4 : dIL m4_linkBack 4 1 5 := Or.inl ⟨1, by decide +kernel, rfl, rfl⟩
theorem r4_linkBack_5 : dO m4_linkBack 5 .iaload 6 := ⟨by decide +kernel, rfl⟩
theorem r4_linkBack_6 : dIS m4_linkBack 6 2 7 := ⟨Or.inl ⟨2, by decide +kernel, rfl, rfl⟩, Nat.le_of_ble_eq_true rfl⟩
theorem r4_linkBack_7 : dAL m4_linkBack 7 0 8 := Or.inl ⟨0, by decide +kernel, rfl, rfl⟩
theorem r4_linkBack_8 : dGF m4_linkBack 8 4 8 11 := ⟨36, by decide +kernel, t_177, ⟨by decide, by decide⟩, rfl⟩
theorem r4_linkBack_11 : dIL m4_linkBack 11 1 12 := Or.inl ⟨1, by decide +kernel, rfl, rfl⟩
theorem r4_linkBack_12 : dO m4_linkBack 12 .iaload 13 := ⟨by decide +kernel, rfl⟩
theorem r4_linkBack_13 : dIS m4_linkBack 13 3 14 := ⟨Or.inl ⟨3, by decide +kernel, rfl, rfl⟩, Nat.le_of_ble_eq_true rfl⟩
theorem r4_linkBack_14 : dAL m4_linkBack 14 0 15 := Or.inl ⟨0, by decide +kernel, rfl, rfl⟩
theorem r4_linkBack_15 : dGF m4_linkBack 15 4 4 18 := ⟨24, by decide +kernel, t_170, ⟨by decide, by decide⟩, rfl⟩
theorem r4_linkBack_18 : dIL m4_linkBack 18 1 19 := Or.inl ⟨1, by decide +kernel, rfl, rfl⟩
theorem r4_linkBack_19 : dKI m4_linkBack 19 0 20 := Or.inl ⟨0, by decide +kernel, rfl, rfl⟩
theorem r4_linkBack_20 : dO m4_linkBack 20 .iastore 21 := ⟨by decide +kernel, rfl⟩
theorem r4_linkBack_21 : dAL m4_linkBack 21 0 22 := Or.inl ⟨0, by decide +kernel, rfl, rfl⟩
theorem r4_linkBack_22 : dGF m4_linkBack 22 4 5 25 := ⟨27, by decide +kernel, t_172, ⟨by decide, by decide⟩, rfl⟩
theorem r4_linkBack_25 : dIL m4_linkBack 25 1 26 := Or.inl ⟨1, by decide +kernel, rfl, rfl⟩
theorem r4_linkBack_26 : dKI m4_linkBack 26 0 27 := Or.inl ⟨0, by decide +kernel, rfl, rfl⟩
theorem r4_linkBack_27 : dO m4_linkBack 27 .iastore 28 := ⟨by decide +kernel, rfl⟩
theorem r4_linkBack_28 : dIL m4_linkBack 28 1 29 := Or.inl ⟨1, by decide +kernel, rfl, rfl⟩
theorem r4_linkBack_29 : dKI m4_linkBack 29 1 30 := Or.inl ⟨1, by decide +kernel, rfl, rfl⟩
theorem r4_linkBack_30 : dO m4_linkBack 30 .isub 31 := ⟨by decide +kernel, rfl⟩
theorem r4_linkBack_31 : dIS m4_linkBack 31 4 33 := ⟨Or.inr ⟨by decide +kernel, rfl⟩, Nat.le_of_ble_eq_true rfl⟩
theorem r4_linkBack_33 : dIL m4_linkBack 33 4 35 := Or.inr ⟨by decide +kernel, rfl⟩
theorem r4_linkBack_35 : dJ m4_linkBack 35 (.ifCond .lt) 38 126 := ⟨91, by decide +kernel, rfl, rfl⟩
theorem r4_linkBack_38 : dIL m4_linkBack 38 2 39 := Or.inl ⟨2, by decide +kernel, rfl, rfl⟩
theorem r4_linkBack_39 : dAL m4_linkBack 39 0 40 := Or.inl ⟨0, by decide +kernel, rfl, rfl⟩
theorem r4_linkBack_40 : dGF m4_linkBack 40 4 9 43 := ⟨39, by decide +kernel, t_178, ⟨by decide, by decide⟩, rfl⟩
theorem r4_linkBack_43 : dIL m4_linkBack 43 4 45 := Or.inr ⟨by decide +kernel, rfl⟩
theorem r4_linkBack_45 : dO m4_linkBack 45 .iaload 46 := ⟨by decide +kernel, rfl⟩
theorem r4_linkBack_46 : dO m4_linkBack 46 .iand 47 := ⟨by decide +kernel, rfl⟩
theorem r4_linkBack_47 : dJ m4_linkBack 47 (.ifCond .ne) 50 62 := ⟨15, by decide +kernel, rfl, rfl⟩
theorem r4_linkBack_50 : dIL m4_linkBack 50 3 51 := Or.inl ⟨3, by decide +kernel, rfl, rfl⟩
theorem r4_linkBack_51 : dAL m4_linkBack 51 0 52 := Or.inl ⟨0, by decide +kernel, rfl, rfl⟩
theorem r4_linkBack_52 : dGF m4_linkBack 52 4 10 55 := ⟨42, by decide +kernel, t_179, ⟨by decide, by decide⟩, rfl⟩
theorem r4_linkBack_55 : dIL m4_linkBack 55 4 57 := Or.inr ⟨by decide +kernel, rfl⟩
theorem r4_linkBack_57 : dO m4_linkBack 57 .iaload 58 := ⟨by decide +kernel, rfl⟩
theorem r4_linkBack_58 : dO m4_linkBack 58 .iand 59 := ⟨by decide +kernel, rfl⟩
theorem r4_linkBack_59 : dJ m4_linkBack 59 (.ifCond .eq) 62 120 := ⟨61, by decide +kernel, rfl, rfl⟩
theorem r4_linkBack_62 : dAL m4_linkBack 62 0 63 := Or.inl ⟨0, by decide +kernel, rfl, rfl⟩
theorem r4_linkBack_63 : dGF m4_linkBack 63 4 4 66 := ⟨24, by decide +kernel, t_170, ⟨by decide, by decide⟩, rfl⟩
theorem r4_linkBack_66 : dIL m4_linkBack 66 1 67 := Or.inl ⟨1, by decide +kernel, rfl, rfl⟩
theorem r4_linkBack_67 : dO m4_linkBack 67 .dup2 68 := ⟨by decide +kernel, rfl⟩
theorem r4_linkBack_68 : dO m4_linkBack 68 .iaload 69 := ⟨by decide +kernel, rfl⟩
theorem r4_linkBack_69 : dKI m4_linkBack 69 1 70 := Or.inl ⟨1, by decide +kernel, rfl, rfl⟩
theorem r4_linkBack_70 : dIL m4_linkBack 70 4 72 := Or.inr ⟨by decide +kernel, rfl⟩
theorem r4_linkBack_72 : dO m4_linkBack 72 .ishl 73 := ⟨by decide +kernel, rfl⟩
theorem r4_linkBack_73 : dO m4_linkBack 73 .ior 74 := ⟨by decide +kernel, rfl⟩
theorem r4_linkBack_74 : dO m4_linkBack 74 .iastore 75 := ⟨by decide +kernel, rfl⟩
theorem r4_linkBack_75 : dAL m4_linkBack 75 0 76 := Or.inl ⟨0, by decide +kernel, rfl, rfl⟩
theorem r4_linkBack_76 : dGF m4_linkBack 76 4 5 79 := ⟨27, by decide +kernel, t_172, ⟨by decide, by decide⟩, rfl⟩
theorem r4_linkBack_79 : dIL m4_linkBack 79 1 80 := Or.inl ⟨1, by decide +kernel, rfl, rfl⟩
theorem r4_linkBack_80 : dO m4_linkBack 80 .dup2 81 := ⟨by decide +kernel, rfl⟩
theorem r4_linkBack_81 : dO m4_linkBack 81 .iaload 82 := ⟨by decide +kernel, rfl⟩
theorem r4_linkBack_82 : dKI m4_linkBack 82 1 83 := Or.inl ⟨1, by decide +kernel, rfl, rfl⟩
theorem r4_linkBack_83 : dIL m4_linkBack 83 4 85 := Or.inr ⟨by decide +kernel, rfl⟩
theorem r4_linkBack_85 : dO m4_linkBack 85 .ishl 86 := ⟨by decide +kernel, rfl⟩
theorem r4_linkBack_86 : dAL m4_linkBack 86 0 87 := Or.inl ⟨0, by decide +kernel, rfl, rfl⟩
theorem r4_linkBack_87 : dGF m4_linkBack 87 4 5 90 := ⟨27, by decide +kernel, t_172, ⟨by decide, by decide⟩, rfl⟩
theorem r4_linkBack_90 : dIL m4_linkBack 90 4 92 := Or.inr ⟨by decide +kernel, rfl⟩
theorem r4_linkBack_92 : dO m4_linkBack 92 .iaload 93 := ⟨by decide +kernel, rfl⟩
theorem r4_linkBack_93 : dO m4_linkBack 93 .ior 94 := ⟨by decide +kernel, rfl⟩
theorem r4_linkBack_94 : dO m4_linkBack 94 .ior 95 := ⟨by decide +kernel, rfl⟩
theorem r4_linkBack_95 : dO m4_linkBack 95 .iastore 96 := ⟨by decide +kernel, rfl⟩
theorem r4_linkBack_96 : dIL m4_linkBack 96 2 97 := Or.inl ⟨2, by decide +kernel, rfl, rfl⟩
theorem r4_linkBack_97 : dAL m4_linkBack 97 0 98 := Or.inl ⟨0, by decide +kernel, rfl, rfl⟩
theorem r4_linkBack_98 : dGF m4_linkBack 98 4 9 101 := ⟨39, by decide +kernel, t_178, ⟨by decide, by decide⟩, rfl⟩
theorem r4_linkBack_101 : dIL m4_linkBack 101 4 103 := Or.inr ⟨by decide +kernel, rfl⟩
theorem r4_linkBack_103 : dO m4_linkBack 103 .iaload 104 := ⟨by decide +kernel, rfl⟩
theorem r4_linkBack_104 : dKI m4_linkBack 104 (-1) 105 := Or.inl ⟨(-1), by decide +kernel, rfl, rfl⟩
theorem r4_linkBack_105 : dO m4_linkBack 105 .ixor 106 := ⟨by decide +kernel, rfl⟩
theorem r4_linkBack_106 : dO m4_linkBack 106 .iand 107 := ⟨by decide +kernel, rfl⟩
theorem r4_linkBack_107 : dIS m4_linkBack 107 2 108 := ⟨Or.inl ⟨2, by decide +kernel, rfl, rfl⟩, Nat.le_of_ble_eq_true rfl⟩
theorem r4_linkBack_108 : dIL m4_linkBack 108 3 109 := Or.inl ⟨3, by decide +kernel, rfl, rfl⟩
theorem r4_linkBack_109 : dAL m4_linkBack 109 0 110 := Or.inl ⟨0, by decide +kernel, rfl, rfl⟩
theorem r4_linkBack_110 : dGF m4_linkBack 110 4 10 113 := ⟨42, by decide +kernel, t_179, ⟨by decide, by decide⟩, rfl⟩
theorem r4_linkBack_113 : dIL m4_linkBack 113 4 115 := Or.inr ⟨by decide +kernel, rfl⟩
theorem r4_linkBack_115 : dO m4_linkBack 115 .iaload 116 := ⟨by decide +kernel, rfl⟩
theorem r4_linkBack_116 : dKI m4_linkBack 116 (-1) 117 := Or.inl ⟨(-1), by decide +kernel, rfl, rfl⟩
theorem r4_linkBack_117 : dO m4_linkBack 117 .ixor 118 := ⟨by decide +kernel, rfl⟩
theorem r4_linkBack_118 : dO m4_linkBack 118 .iand 119 := ⟨by decide +kernel, rfl⟩
theorem r4_linkBack_119 : dIS m4_linkBack 119 3 120 := ⟨Or.inl ⟨3, by decide +kernel, rfl, rfl⟩, Nat.le_of_ble_eq_true rfl⟩
theorem r4_linkBack_120 : dII m4_linkBack 120 4 (-1) 123 := ⟨(-1), by decide +kernel, rfl, rfl, Nat.le_of_ble_eq_true rfl⟩
theorem r4_linkBack_123 : dJ m4_linkBack 123 .goto 126 33 := ⟨(-90), by decide +kernel, rfl, rfl⟩
theorem r4_linkBack_126 : dO m4_linkBack 126 .return_ 127 := ⟨by decide +kernel, rfl⟩
theorem r4_removeLast_0 : dAL m4_removeLast 0 0 1 := Or.inl ⟨0, by decide +kernel, rfl, rfl⟩
theorem r4_removeLast_1 : dGF m4_removeLast 1 4 12 4 := ⟨48, by decide +kernel, t_181, ⟨by decide, by decide⟩, rfl⟩
theorem r4_removeLast_4 : dKI m4_removeLast 4 1 5 := Or.inl ⟨1, by decide +kernel, rfl, rfl⟩
theorem r4_removeLast_5 : dJ m4_removeLast 5 (.if_icmp .ge) 8 9 := ⟨4, by decide +kernel, rfl, rfl⟩
theorem r4_removeLast_8 : dO m4_removeLast 8 .return_ 9 := ⟨by decide +kernel, rfl⟩
theorem r4_removeLast_9 : dAL m4_removeLast 9 0 10 := Or.inl ⟨0, by decide +kernel, rfl, rfl⟩
theorem r4_removeLast_10 : dO m4_removeLast 10 .dup 11 := ⟨by decide +kernel, rfl⟩
theorem r4_removeLast_11 : dGF m4_removeLast 11 4 12 14 := ⟨48, by decide +kernel, t_181, ⟨by decide, by decide⟩, rfl⟩
theorem r4_removeLast_14 : dKI m4_removeLast 14 1 15 := Or.inl ⟨1, by decide +kernel, rfl, rfl⟩
theorem r4_removeLast_15 : dO m4_removeLast 15 .isub 16 := ⟨by decide +kernel, rfl⟩
theorem r4_removeLast_16 : dPF m4_removeLast 16 4 12 19 := ⟨48, by decide +kernel, t_181, ⟨by decide, by decide⟩, rfl⟩
theorem r4_removeLast_19 : dAL m4_removeLast 19 0 20 := Or.inl ⟨0, by decide +kernel, rfl, rfl⟩
theorem r4_removeLast_20 : dGF m4_removeLast 20 4 0 23 := ⟨9, by decide +kernel, t_162, ⟨by decide, by decide⟩, rfl⟩
theorem r4_removeLast_23 : dAL m4_removeLast 23 0 24 := Or.inl ⟨0, by decide +kernel, rfl, rfl⟩
theorem r4_removeLast_24 : dGF m4_removeLast 24 4 12 27 := ⟨48, by decide +kernel, t_181, ⟨by decide, by decide⟩, rfl⟩
theorem r4_removeLast_27 : dO m4_removeLast 27 .iaload 28 := ⟨by decide +kernel, rfl⟩
theorem r4_removeLast_28 : dIS m4_removeLast 28 1 29 := ⟨Or.inl ⟨1, by decide +kernel, rfl, rfl⟩, Nat.le_of_ble_eq_true rfl⟩
theorem r4_removeLast_29 : dIL m4_removeLast 29 1 30 := Or.inl ⟨1, by decide +kernel, rfl, rfl⟩
theorem r4_removeLast_30 : dJ m4_removeLast 30 (.ifCond .lt) 33 49 := ⟨19, by decide +kernel, rfl, rfl⟩
theorem r4_removeLast_33 : dIL m4_removeLast 33 1 34 := Or.inl ⟨1, by decide +kernel, rfl, rfl⟩
theorem r4_removeLast_34 : dKI m4_removeLast 34 10 36 := Or.inr (Or.inl ⟨10, by decide +kernel, rfl, rfl⟩)
theorem r4_removeLast_36 : dJ m4_removeLast 36 (.if_icmp .ge) 39 49 := ⟨13, by decide +kernel, rfl, rfl⟩
theorem r4_removeLast_39 : dAL m4_removeLast 39 0 40 := Or.inl ⟨0, by decide +kernel, rfl, rfl⟩
theorem r4_removeLast_40 : dGF m4_removeLast 40 4 6 43 := ⟨30, by decide +kernel, t_174, ⟨by decide, by decide⟩, rfl⟩
theorem r4_removeLast_43 : dIL m4_removeLast 43 1 44 := Or.inl ⟨1, by decide +kernel, rfl, rfl⟩
theorem r4_removeLast_44 : dO m4_removeLast 44 .dup2 45 := ⟨by decide +kernel, rfl⟩
theorem r4_removeLast_45 : dO m4_removeLast 45 .iaload 46 := ⟨by decide +kernel, rfl⟩
theorem r4_removeLast_46 : dKI m4_removeLast 46 1 47 := Or.inl ⟨1, by decide +kernel, rfl, rfl⟩
theorem r4_removeLast_47 : dO m4_removeLast 47 .isub 48 := ⟨by decide +kernel, rfl⟩
theorem r4_removeLast_48 : dO m4_removeLast 48 .iastore 49 := ⟨by decide +kernel, rfl⟩
theorem r4_removeLast_49 : dAL m4_removeLast 49 0 50 := Or.inl ⟨0, by decide +kernel, rfl, rfl⟩
theorem r4_removeLast_50 : dAL m4_removeLast 50 0 51 := Or.inl ⟨0, by decide +kernel, rfl, rfl⟩
theorem r4_removeLast_51 : dGF m4_removeLast 51 4 12 54 := ⟨48, by decide +kernel, t_181, ⟨by decide, by decide⟩, rfl⟩
theorem r4_removeLast_54 : dJ m4_removeLast 54 (.ifCond .le) 57 71 := ⟨17, by decide +kernel, rfl, rfl⟩
theorem r4_removeLast_57 : dAL m4_removeLast 57 0 58 := Or.inl ⟨0, by decide +kernel, rfl, rfl⟩
theorem r4_removeLast_58 : dGF m4_removeLast 58 4 3 61 := ⟨21, by decide +kernel, t_168, ⟨by decide, by decide⟩, rfl⟩
theorem r4_removeLast_61 : dAL m4_removeLast 61 0 62 := Or.inl ⟨0, by decide +kernel, rfl, rfl⟩
theorem r4_removeLast_62 : dGF m4_removeLast 62 4 12 65 := ⟨48, by decide +kernel, t_181, ⟨by decide, by decide⟩, rfl⟩
theorem r4_removeLast_65 : dKI m4_removeLast 65 1 66 := Or.inl ⟨1, by decide +kernel, rfl, rfl⟩
theorem r4_removeLast_66 : dO m4_removeLast 66 .isub 67 := ⟨by decide +kernel, rfl⟩
theorem r4_removeLast_67 : dO m4_removeLast 67 .iaload 68 := ⟨by decide +kernel, rfl⟩
theorem r4_removeLast_68 : dJ m4_removeLast 68 .goto 71 75 := ⟨7, by decide +kernel, rfl, rfl⟩
theorem r4_removeLast_71 : dAL m4_removeLast 71 0 72 := Or.inl ⟨0, by decide +kernel, rfl, rfl⟩
theorem r4_removeLast_72 : dGF m4_removeLast 72 4 15 75 := ⟨55, by decide +kernel, t_187, ⟨by decide, by decide⟩, rfl⟩
theorem r4_removeLast_75 : dPF m4_removeLast 75 4 14 78 := ⟨58, by decide +kernel, t_185, ⟨by decide, by decide⟩, rfl⟩
theorem r4_removeLast_78 : dKI m4_removeLast 78 0 79 := Or.inl ⟨0, by decide +kernel, rfl, rfl⟩
theorem r4_removeLast_79 : dIS m4_removeLast 79 2 80 := ⟨Or.inl ⟨2, by decide +kernel, rfl, rfl⟩, Nat.le_of_ble_eq_true rfl⟩
theorem r4_removeLast_80 : dIL m4_removeLast 80 2 81 := Or.inl ⟨2, by decide +kernel, rfl, rfl⟩
theorem r4_removeLast_81 : dAL m4_removeLast 81 0 82 := Or.inl ⟨0, by decide +kernel, rfl, rfl⟩
theorem r4_removeLast_82 : dGF m4_removeLast 82 4 12 85 := ⟨48, by decide +kernel, t_181, ⟨by decide, by decide⟩, rfl⟩
theorem r4_removeLast_85 : dJ m4_removeLast 85 (.if_icmp .ge) 88 99 := ⟨14, by decide +kernel, rfl, rfl⟩
theorem r4_removeLast_88 : dAL m4_removeLast 88 0 89 := Or.inl ⟨0, by decide +kernel, rfl, rfl⟩
theorem r4_removeLast_89 : dIL m4_removeLast 89 2 90 := Or.inl ⟨2, by decide +kernel, rfl, rfl⟩
theorem r4_removeLast_90 : dCV m4_removeLast 90 m4_sortIntoThread 93 := ⟨78, by decide +kernel, t_571, Nat.le_of_ble_eq_true rfl, rfl⟩
theorem r4_removeLast_93 : dII m4_removeLast 93 2 1 96 := ⟨1, by decide +kernel, rfl, rfl, Nat.le_of_ble_eq_true rfl⟩
theorem r4_removeLast_96 : dJ m4_removeLast 96 .goto 99 80 := ⟨(-16), by decide +kernel, rfl, rfl⟩
theorem r4_removeLast_99 : dO m4_removeLast 99 .return_ 100 := ⟨by decide +kernel, rfl⟩
theorem r4_allSteps_0 : dKI m4_allSteps 0 1 1 := Or.inl ⟨1, by decide +kernel, rfl, rfl⟩
theorem r4_allSteps_1 : dAL m4_allSteps 1 0 2 := Or.inl ⟨0, by decide +kernel, rfl, rfl⟩
theorem r4_allSteps_2 : dGF m4_allSteps 2 4 12 5 := ⟨48, by decide +kernel, t_181, ⟨by decide, by decide⟩, rfl⟩
theorem r4_allSteps_5 : dO m4_allSteps 5 .ishl 6 := ⟨by decide +kernel, rfl⟩
theorem r4_allSteps_6 : dKI m4_allSteps 6 1 7 := Or.inl ⟨1, by decide +kernel, rfl, rfl⟩
theorem r4_allSteps_7 : dO m4_allSteps 7 .isub 8 := ⟨by decide +kernel, rfl⟩
theorem r4_allSteps_8 : dO m4_allSteps 8 .ireturn 9 := ⟨by decide +kernel, rfl⟩
theorem r4_allLinks_0 : dKI m4_allLinks 0 0 1 := Or.inl ⟨0, by decide +kernel, rfl, rfl⟩
theorem r4_allLinks_1 : dIS m4_allLinks 1 1 2 := ⟨Or.inl ⟨1, by decide +kernel, rfl, rfl⟩, Nat.le_of_ble_eq_true rfl⟩
theorem r4_allLinks_2 : dKI m4_allLinks 2 0 3 := Or.inl ⟨0, by decide +kernel, rfl, rfl⟩
theorem r4_allLinks_3 : dIS m4_allLinks 3 2 4 := ⟨Or.inl ⟨2, by decide +kernel, rfl, rfl⟩, Nat.le_of_ble_eq_true rfl⟩
theorem r4_allLinks_4 : dIL m4_allLinks 4 2 5 := Or.inl ⟨2, by decide +kernel, rfl, rfl⟩
theorem r4_allLinks_5 : dAL m4_allLinks 5 0 6 := Or.inl ⟨0, by decide +kernel, rfl, rfl⟩
theorem r4_allLinks_6 : dGF m4_allLinks 6 4 12 9 := ⟨48, by decide +kernel, t_181, ⟨by decide, by decide⟩, rfl⟩
theorem r4_allLinks_9 : dJ m4_allLinks 9 (.if_icmp .ge) 12 30 := ⟨21, by decide +kernel, rfl, rfl⟩
theorem r4_allLinks_12 : dIL m4_allLinks 12 1 13 := Or.inl ⟨1, by decide +kernel, rfl, rfl⟩
theorem r4_allLinks_13 : dAL m4_allLinks 13 0 14 := Or.inl ⟨0, by decide +kernel, rfl, rfl⟩
theorem r4_allLinks_14 : dGF m4_allLinks 14 4 4 17 := ⟨24, by decide +kernel, t_170, ⟨by decide, by decide⟩, rfl⟩
theorem r4_allLinks_17 : dIL m4_allLinks 17 2 18 := Or.inl ⟨2, by decide +kernel, rfl, rfl⟩
theorem r4_allLinks_18 : dO m4_allLinks 18 .iaload 19 := ⟨by decide +kernel, rfl⟩
theorem r4_allLinks_19 : dCS m4_allLinks 19 mj6_bitCount_0f7a4 22 := Or.inl ⟨81, by decide +kernel, t_718, Nat.le_of_ble_eq_true rfl, rfl⟩
theorem r4_allLinks_22 : dO m4_allLinks 22 .iadd 23 := ⟨by decide +kernel, rfl⟩
theorem r4_allLinks_23 : dIS m4_allLinks 23 1 24 := ⟨Or.inl ⟨1, by decide +kernel, rfl, rfl⟩, Nat.le_of_ble_eq_true rfl⟩
theorem r4_allLinks_24 : dII m4_allLinks 24 2 1 27 := ⟨1, by decide +kernel, rfl, rfl, Nat.le_of_ble_eq_true rfl⟩
theorem r4_allLinks_27 : dJ m4_allLinks 27 .goto 30 4 := ⟨(-23), by decide +kernel, rfl, rfl⟩
theorem r4_allLinks_30 : dIL m4_allLinks 30 1 31 := Or.inl ⟨1, by decide +kernel, rfl, rfl⟩
theorem r4_allLinks_31 : dO m4_allLinks 31 .ireturn 32 := ⟨by decide +kernel, rfl⟩
theorem r4_widestLink_0 : dKI m4_widestLink 0 0 1 := Or.inl ⟨0, by decide +kernel, rfl, rfl⟩
theorem r4_widestLink_1 : dIS m4_widestLink 1 1 2 := ⟨Or.inl ⟨1, by decide +kernel, rfl, rfl⟩, Nat.le_of_ble_eq_true rfl⟩
theorem r4_widestLink_2 : dKI m4_widestLink 2 0 3 := Or.inl ⟨0, by decide +kernel, rfl, rfl⟩
theorem r4_widestLink_3 : dIS m4_widestLink 3 2 4 := ⟨Or.inl ⟨2, by decide +kernel, rfl, rfl⟩, Nat.le_of_ble_eq_true rfl⟩
theorem r4_widestLink_4 : dIL m4_widestLink 4 2 5 := Or.inl ⟨2, by decide +kernel, rfl, rfl⟩
theorem r4_widestLink_5 : dAL m4_widestLink 5 0 6 := Or.inl ⟨0, by decide +kernel, rfl, rfl⟩
theorem r4_widestLink_6 : dGF m4_widestLink 6 4 12 9 := ⟨48, by decide +kernel, t_181, ⟨by decide, by decide⟩, rfl⟩
theorem r4_widestLink_9 : dJ m4_widestLink 9 (.if_icmp .ge) 12 52 := ⟨43, by decide +kernel, rfl, rfl⟩
theorem r4_widestLink_12 : dKI m4_widestLink 12 0 13 := Or.inl ⟨0, by decide +kernel, rfl, rfl⟩
theorem r4_widestLink_13 : dIS m4_widestLink 13 3 14 := ⟨Or.inl ⟨3, by decide +kernel, rfl, rfl⟩, Nat.le_of_ble_eq_true rfl⟩
theorem r4_widestLink_14 : dIL m4_widestLink 14 3 15 := Or.inl ⟨3, by decide +kernel, rfl, rfl⟩
theorem r4_widestLink_15 : dIL m4_widestLink 15 2 16 := Or.inl ⟨2, by decide +kernel, rfl, rfl⟩
theorem r4_widestLink_16 : dJ m4_widestLink 16 (.if_icmp .ge) 19 46 := ⟨30, by decide +kernel, rfl, rfl⟩
theorem r4_widestLink_19 : dAL m4_widestLink 19 0 20 := Or.inl ⟨0, by decide +kernel, rfl, rfl⟩
theorem r4_widestLink_20 : dGF m4_widestLink 20 4 4 23 := ⟨24, by decide +kernel, t_170, ⟨by decide, by decide⟩, rfl⟩
theorem r4_widestLink_23 : dIL m4_widestLink 23 2 24 := Or.inl ⟨2, by decide +kernel, rfl, rfl⟩
theorem r4_widestLink_24 : dO m4_widestLink 24 .iaload 25 := ⟨by decide +kernel, rfl⟩
theorem r4_widestLink_25 : dIL m4_widestLink 25 3 26 := Or.inl ⟨3, by decide +kernel, rfl, rfl⟩
theorem r4_widestLink_26 : dCS m4_widestLink 26 m6_contains 29 := Or.inr ⟨87, "WantPlots", by decide +kernel, tn_575, Nat.le_of_ble_eq_true rfl, rfl⟩
theorem r4_widestLink_29 : dJ m4_widestLink 29 (.ifCond .eq) 32 40 := ⟨11, by decide +kernel, rfl, rfl⟩
theorem r4_widestLink_32 : dIL m4_widestLink 32 1 33 := Or.inl ⟨1, by decide +kernel, rfl, rfl⟩
theorem r4_widestLink_33 : dIL m4_widestLink 33 2 34 := Or.inl ⟨2, by decide +kernel, rfl, rfl⟩
theorem r4_widestLink_34 : dIL m4_widestLink 34 3 35 := Or.inl ⟨3, by decide +kernel, rfl, rfl⟩
theorem r4_widestLink_35 : dO m4_widestLink 35 .isub 36 := ⟨by decide +kernel, rfl⟩
theorem r4_widestLink_36 : dMX m4_widestLink 36 Lib.Math.max.name 39 := ⟨91, by decide +kernel, t_583, Nat.le_of_ble_eq_true rfl, rfl⟩
theorem r4_widestLink_39 : dIS m4_widestLink 39 1 40 := ⟨Or.inl ⟨1, by decide +kernel, rfl, rfl⟩, Nat.le_of_ble_eq_true rfl⟩
theorem r4_widestLink_40 : dII m4_widestLink 40 3 1 43 := ⟨1, by decide +kernel, rfl, rfl, Nat.le_of_ble_eq_true rfl⟩
theorem r4_widestLink_43 : dJ m4_widestLink 43 .goto 46 14 := ⟨(-29), by decide +kernel, rfl, rfl⟩
theorem r4_widestLink_46 : dII m4_widestLink 46 2 1 49 := ⟨1, by decide +kernel, rfl, rfl, Nat.le_of_ble_eq_true rfl⟩
theorem r4_widestLink_49 : dJ m4_widestLink 49 .goto 52 4 := ⟨(-45), by decide +kernel, rfl, rfl⟩
theorem r4_widestLink_52 : dIL m4_widestLink 52 1 53 := Or.inl ⟨1, by decide +kernel, rfl, rfl⟩
theorem r4_widestLink_53 : dO m4_widestLink 53 .ireturn 54 := ⟨by decide +kernel, rfl⟩
theorem r4_sortIntoThread_0 : dAL m4_sortIntoThread 0 0 1 := Or.inl ⟨0, by decide +kernel, rfl, rfl⟩
theorem r4_sortIntoThread_1 : dGF m4_sortIntoThread 1 4 11 4 := ⟨45, by decide +kernel, t_180, ⟨by decide, by decide⟩, rfl⟩
theorem r4_sortIntoThread_4 : dIL m4_sortIntoThread 4 1 5 := Or.inl ⟨1, by decide +kernel, rfl, rfl⟩
theorem r4_sortIntoThread_5 : dIL m4_sortIntoThread 5 1 6 := Or.inl ⟨1, by decide +kernel, rfl, rfl⟩
theorem r4_sortIntoThread_6 : dO m4_sortIntoThread 6 .iastore 7 := ⟨by decide +kernel, rfl⟩
theorem r4_sortIntoThread_7 : dKI m4_sortIntoThread 7 0 8 := Or.inl ⟨0, by decide +kernel, rfl, rfl⟩
theorem r4_sortIntoThread_8 : dIS m4_sortIntoThread 8 2 9 := ⟨Or.inl ⟨2, by decide +kernel, rfl, rfl⟩, Nat.le_of_ble_eq_true rfl⟩
theorem r4_sortIntoThread_9 : dIL m4_sortIntoThread 9 2 10 := Or.inl ⟨2, by decide +kernel, rfl, rfl⟩
theorem r4_sortIntoThread_10 : dIL m4_sortIntoThread 10 1 11 := Or.inl ⟨1, by decide +kernel, rfl, rfl⟩
theorem r4_sortIntoThread_11 : dJ m4_sortIntoThread 11 (.if_icmp .ge) 14 50 := ⟨39, by decide +kernel, rfl, rfl⟩
theorem r4_sortIntoThread_14 : dAL m4_sortIntoThread 14 0 15 := Or.inl ⟨0, by decide +kernel, rfl, rfl⟩
theorem r4_sortIntoThread_15 : dGF m4_sortIntoThread 15 4 4 18 := ⟨24, by decide +kernel, t_170, ⟨by decide, by decide⟩, rfl⟩
theorem r4_sortIntoThread_18 : dIL m4_sortIntoThread 18 1 19 := Or.inl ⟨1, by decide +kernel, rfl, rfl⟩
theorem r4_sortIntoThread_19 : dO m4_sortIntoThread 19 .iaload 20 := ⟨by decide +kernel, rfl⟩
theorem r4_sortIntoThread_20 : dIL m4_sortIntoThread 20 2 21 := Or.inl ⟨2, by decide +kernel, rfl, rfl⟩
theorem r4_sortIntoThread_21 : dCS m4_sortIntoThread 21 m6_contains 24 := Or.inr ⟨87, "WantPlots", by decide +kernel, tn_575, Nat.le_of_ble_eq_true rfl, rfl⟩
theorem r4_sortIntoThread_24 : dJ m4_sortIntoThread 24 (.ifCond .eq) 27 44 := ⟨20, by decide +kernel, rfl, rfl⟩
theorem r4_sortIntoThread_27 : dAL m4_sortIntoThread 27 0 28 := Or.inl ⟨0, by decide +kernel, rfl, rfl⟩
theorem r4_sortIntoThread_28 : dAL m4_sortIntoThread 28 0 29 := Or.inl ⟨0, by decide +kernel, rfl, rfl⟩
theorem r4_sortIntoThread_29 : dGF m4_sortIntoThread 29 4 11 32 := ⟨45, by decide +kernel, t_180, ⟨by decide, by decide⟩, rfl⟩
theorem r4_sortIntoThread_32 : dIL m4_sortIntoThread 32 2 33 := Or.inl ⟨2, by decide +kernel, rfl, rfl⟩
theorem r4_sortIntoThread_33 : dO m4_sortIntoThread 33 .iaload 34 := ⟨by decide +kernel, rfl⟩
theorem r4_sortIntoThread_34 : dAL m4_sortIntoThread 34 0 35 := Or.inl ⟨0, by decide +kernel, rfl, rfl⟩
theorem r4_sortIntoThread_35 : dGF m4_sortIntoThread 35 4 11 38 := ⟨45, by decide +kernel, t_180, ⟨by decide, by decide⟩, rfl⟩
theorem r4_sortIntoThread_38 : dIL m4_sortIntoThread 38 1 39 := Or.inl ⟨1, by decide +kernel, rfl, rfl⟩
theorem r4_sortIntoThread_39 : dO m4_sortIntoThread 39 .iaload 40 := ⟨by decide +kernel, rfl⟩
theorem r4_sortIntoThread_40 : dIL m4_sortIntoThread 40 1 41 := Or.inl ⟨1, by decide +kernel, rfl, rfl⟩
theorem r4_sortIntoThread_41 : dCV m4_sortIntoThread 41 m4_joinThreads 44 := ⟨97, by decide +kernel, t_576, Nat.le_of_ble_eq_true rfl, rfl⟩
theorem r4_sortIntoThread_44 : dII m4_sortIntoThread 44 2 1 47 := ⟨1, by decide +kernel, rfl, rfl, Nat.le_of_ble_eq_true rfl⟩
theorem r4_sortIntoThread_47 : dJ m4_sortIntoThread 47 .goto 50 9 := ⟨(-38), by decide +kernel, rfl, rfl⟩
theorem r4_sortIntoThread_50 : dO m4_sortIntoThread 50 .return_ 51 := ⟨by decide +kernel, rfl⟩
theorem r4_joinThreads_0 : dIL m4_joinThreads 0 1 1 := Or.inl ⟨1, by decide +kernel, rfl, rfl⟩
theorem r4_joinThreads_1 : dIL m4_joinThreads 1 2 2 := Or.inl ⟨2, by decide +kernel, rfl, rfl⟩
theorem r4_joinThreads_2 : dMX m4_joinThreads 2 Lib.Math.min.name 5 := ⟨101, by decide +kernel, t_580, Nat.le_of_ble_eq_true rfl, rfl⟩
theorem r4_joinThreads_5 : dIS m4_joinThreads 5 4 7 := ⟨Or.inr ⟨by decide +kernel, rfl⟩, Nat.le_of_ble_eq_true rfl⟩
theorem r4_joinThreads_7 : dIL m4_joinThreads 7 1 8 := Or.inl ⟨1, by decide +kernel, rfl, rfl⟩
theorem r4_joinThreads_8 : dIL m4_joinThreads 8 2 9 := Or.inl ⟨2, by decide +kernel, rfl, rfl⟩
theorem r4_joinThreads_9 : dMX m4_joinThreads 9 Lib.Math.max.name 12 := ⟨91, by decide +kernel, t_583, Nat.le_of_ble_eq_true rfl, rfl⟩
theorem r4_joinThreads_12 : dIS m4_joinThreads 12 5 14 := ⟨Or.inr ⟨by decide +kernel, rfl⟩, Nat.le_of_ble_eq_true rfl⟩
theorem r4_joinThreads_14 : dIL m4_joinThreads 14 5 16 := Or.inr ⟨by decide +kernel, rfl⟩
theorem r4_joinThreads_16 : dIS m4_joinThreads 16 6 18 := ⟨Or.inr ⟨by decide +kernel, rfl⟩, Nat.le_of_ble_eq_true rfl⟩
theorem r4_joinThreads_18 : dIL m4_joinThreads 18 6 20 := Or.inr ⟨by decide +kernel, rfl⟩
theorem r4_joinThreads_20 : dIL m4_joinThreads 20 3 21 := Or.inl ⟨3, by decide +kernel, rfl, rfl⟩
theorem r4_joinThreads_21 : dJ m4_joinThreads 21 (.if_icmp .gt) 24 51 := ⟨30, by decide +kernel, rfl, rfl⟩
theorem r4_joinThreads_24 : dAL m4_joinThreads 24 0 25 := Or.inl ⟨0, by decide +kernel, rfl, rfl⟩
theorem r4_joinThreads_25 : dGF m4_joinThreads 25 4 11 28 := ⟨45, by decide +kernel, t_180, ⟨by decide, by decide⟩, rfl⟩
theorem r4_joinThreads_28 : dIL m4_joinThreads 28 6 30 := Or.inr ⟨by decide +kernel, rfl⟩
theorem r4_joinThreads_30 : dO m4_joinThreads 30 .iaload 31 := ⟨by decide +kernel, rfl⟩
theorem r4_joinThreads_31 : dIL m4_joinThreads 31 5 33 := Or.inr ⟨by decide +kernel, rfl⟩
theorem r4_joinThreads_33 : dJ m4_joinThreads 33 (.if_icmp .ne) 36 45 := ⟨12, by decide +kernel, rfl, rfl⟩
theorem r4_joinThreads_36 : dAL m4_joinThreads 36 0 37 := Or.inl ⟨0, by decide +kernel, rfl, rfl⟩
theorem r4_joinThreads_37 : dGF m4_joinThreads 37 4 11 40 := ⟨45, by decide +kernel, t_180, ⟨by decide, by decide⟩, rfl⟩
theorem r4_joinThreads_40 : dIL m4_joinThreads 40 6 42 := Or.inr ⟨by decide +kernel, rfl⟩
theorem r4_joinThreads_42 : dIL m4_joinThreads 42 4 44 := Or.inr ⟨by decide +kernel, rfl⟩
theorem r4_joinThreads_44 : dO m4_joinThreads 44 .iastore 45 := ⟨by decide +kernel, rfl⟩
theorem r4_joinThreads_45 : dII m4_joinThreads 45 6 1 48 := ⟨1, by decide +kernel, rfl, rfl, Nat.le_of_ble_eq_true rfl⟩
theorem r4_joinThreads_48 : dJ m4_joinThreads 48 .goto 51 18 := ⟨(-30), by decide +kernel, rfl, rfl⟩
theorem r4_joinThreads_51 : dO m4_joinThreads 51 .return_ 52 := ⟨by decide +kernel, rfl⟩
theorem r4_threadsBefore_0 : dKI m4_threadsBefore 0 0 1 := Or.inl ⟨0, by decide +kernel, rfl, rfl⟩
theorem r4_threadsBefore_1 : dIS m4_threadsBefore 1 2 2 := ⟨Or.inl ⟨2, by decide +kernel, rfl, rfl⟩, Nat.le_of_ble_eq_true rfl⟩
theorem r4_threadsBefore_2 : dKI m4_threadsBefore 2 0 3 := Or.inl ⟨0, by decide +kernel, rfl, rfl⟩
theorem r4_threadsBefore_3 : dIS m4_threadsBefore 3 3 4 := ⟨Or.inl ⟨3, by decide +kernel, rfl, rfl⟩, Nat.le_of_ble_eq_true rfl⟩
theorem r4_threadsBefore_4 : dIL m4_threadsBefore 4 3 5 := Or.inl ⟨3, by decide +kernel, rfl, rfl⟩
theorem r4_threadsBefore_5 : dIL m4_threadsBefore 5 1 6 := Or.inl ⟨1, by decide +kernel, rfl, rfl⟩
theorem r4_threadsBefore_6 : dJ m4_threadsBefore 6 (.if_icmp .ge) 9 36 := ⟨30, by decide +kernel, rfl, rfl⟩
theorem r4_threadsBefore_9 : dIL m4_threadsBefore 9 3 10 := Or.inl ⟨3, by decide +kernel, rfl, rfl⟩
theorem r4_threadsBefore_10 : dAL m4_threadsBefore 10 0 11 := Or.inl ⟨0, by decide +kernel, rfl, rfl⟩
theorem r4_threadsBefore_11 : dGF m4_threadsBefore 11 4 12 14 := ⟨48, by decide +kernel, t_181, ⟨by decide, by decide⟩, rfl⟩
theorem r4_threadsBefore_14 : dJ m4_threadsBefore 14 (.if_icmp .ge) 17 36 := ⟨22, by decide +kernel, rfl, rfl⟩
theorem r4_threadsBefore_17 : dAL m4_threadsBefore 17 0 18 := Or.inl ⟨0, by decide +kernel, rfl, rfl⟩
theorem r4_threadsBefore_18 : dGF m4_threadsBefore 18 4 11 21 := ⟨45, by decide +kernel, t_180, ⟨by decide, by decide⟩, rfl⟩
theorem r4_threadsBefore_21 : dIL m4_threadsBefore 21 3 22 := Or.inl ⟨3, by decide +kernel, rfl, rfl⟩
theorem r4_threadsBefore_22 : dO m4_threadsBefore 22 .iaload 23 := ⟨by decide +kernel, rfl⟩
theorem r4_threadsBefore_23 : dIL m4_threadsBefore 23 3 24 := Or.inl ⟨3, by decide +kernel, rfl, rfl⟩
theorem r4_threadsBefore_24 : dJ m4_threadsBefore 24 (.if_icmp .ne) 27 30 := ⟨6, by decide +kernel, rfl, rfl⟩
theorem r4_threadsBefore_27 : dII m4_threadsBefore 27 2 1 30 := ⟨1, by decide +kernel, rfl, rfl, Nat.le_of_ble_eq_true rfl⟩
theorem r4_threadsBefore_30 : dII m4_threadsBefore 30 3 1 33 := ⟨1, by decide +kernel, rfl, rfl, Nat.le_of_ble_eq_true rfl⟩
theorem r4_threadsBefore_33 : dJ m4_threadsBefore 33 .goto 36 4 := ⟨(-29), by decide +kernel, rfl, rfl⟩
theorem r4_threadsBefore_36 : dIL m4_threadsBefore 36 2 37 := Or.inl ⟨2, by decide +kernel, rfl, rfl⟩
theorem r4_threadsBefore_37 : dO m4_threadsBefore 37 .ireturn 38 := ⟨by decide +kernel, rfl⟩
theorem r4_threadOf_0 : dIL m4_threadOf 0 1 1 := Or.inl ⟨1, by decide +kernel, rfl, rfl⟩
theorem r4_threadOf_1 : dJ m4_threadOf 1 (.ifCond .lt) 4 25 := ⟨24, by decide +kernel, rfl, rfl⟩
theorem r4_threadOf_4 : dIL m4_threadOf 4 1 5 := Or.inl ⟨1, by decide +kernel, rfl, rfl⟩
theorem r4_threadOf_5 : dAL m4_threadOf 5 0 6 := Or.inl ⟨0, by decide +kernel, rfl, rfl⟩
theorem r4_threadOf_6 : dGF m4_threadOf 6 4 12 9 := ⟨48, by decide +kernel, t_181, ⟨by decide, by decide⟩, rfl⟩
theorem r4_threadOf_9 : dJ m4_threadOf 9 (.if_icmp .ge) 12 25 := ⟨16, by decide +kernel, rfl, rfl⟩
theorem r4_threadOf_12 : dAL m4_threadOf 12 0 13 := Or.inl ⟨0, by decide +kernel, rfl, rfl⟩
theorem r4_threadOf_13 : dAL m4_threadOf 13 0 14 := Or.inl ⟨0, by decide +kernel, rfl, rfl⟩
theorem r4_threadOf_14 : dGF m4_threadOf 14 4 11 17 := ⟨45, by decide +kernel, t_180, ⟨by decide, by decide⟩, rfl⟩
theorem r4_threadOf_17 : dIL m4_threadOf 17 1 18 := Or.inl ⟨1, by decide +kernel, rfl, rfl⟩
theorem r4_threadOf_18 : dO m4_threadOf 18 .iaload 19 := ⟨by decide +kernel, rfl⟩
theorem r4_threadOf_19 : dCV m4_threadOf 19 m4_threadsBefore 22 := ⟨104, by decide +kernel, t_651, Nat.le_of_ble_eq_true rfl, rfl⟩
theorem r4_threadOf_22 : dJ m4_threadOf 22 .goto 25 26 := ⟨4, by decide +kernel, rfl, rfl⟩
theorem r4_threadOf_25 : dKI m4_threadOf 25 (-1) 26 := Or.inl ⟨(-1), by decide +kernel, rfl, rfl⟩
theorem r4_threadOf_26 : dO m4_threadOf 26 .ireturn 27 := ⟨by decide +kernel, rfl⟩
theorem r4_isValid_0 : dAL m4_isValid 0 0 1 := Or.inl ⟨0, by decide +kernel, rfl, rfl⟩
theorem r4_isValid_1 : dGF m4_isValid 1 4 15 4 := ⟨55, by decide +kernel, t_187, ⟨by decide, by decide⟩, rfl⟩
theorem r4_isValid_4 : dIS m4_isValid 4 4 6 := ⟨Or.inr ⟨by decide +kernel, rfl⟩, Nat.le_of_ble_eq_true rfl⟩
theorem r4_isValid_6 : dKI m4_isValid 6 0 7 := Or.inl ⟨0, by decide +kernel, rfl, rfl⟩
theorem r4_isValid_7 : dIS m4_isValid 7 5 9 := ⟨Or.inr ⟨by decide +kernel, rfl⟩, Nat.le_of_ble_eq_true rfl⟩
theorem r4_isValid_9 : dIL m4_isValid 9 5 11 := Or.inr ⟨by decide +kernel, rfl⟩
theorem r4_isValid_11 : dAL m4_isValid 11 0 12 := Or.inl ⟨0, by decide +kernel, rfl, rfl⟩
theorem r4_isValid_12 : dGF m4_isValid 12 4 12 15 := ⟨48, by decide +kernel, t_181, ⟨by decide, by decide⟩, rfl⟩
theorem r4_isValid_15 : dJ m4_isValid 15 (.if_icmp .ge) 18 78 := ⟨63, by decide +kernel, rfl, rfl⟩
theorem r4_isValid_18 : dIL m4_isValid 18 1 19 := Or.inl ⟨1, by decide +kernel, rfl, rfl⟩
theorem r4_isValid_19 : dIL m4_isValid 19 5 21 := Or.inr ⟨by decide +kernel, rfl⟩
theorem r4_isValid_21 : dCS m4_isValid 21 m6_contains 24 := Or.inr ⟨87, "WantPlots", by decide +kernel, tn_575, Nat.le_of_ble_eq_true rfl, rfl⟩
theorem r4_isValid_24 : dJ m4_isValid 24 (.ifCond .eq) 27 72 := ⟨48, by decide +kernel, rfl, rfl⟩
theorem r4_isValid_27 : dIL m4_isValid 27 4 29 := Or.inr ⟨by decide +kernel, rfl⟩
theorem r4_isValid_29 : dAL m4_isValid 29 0 30 := Or.inl ⟨0, by decide +kernel, rfl, rfl⟩
theorem r4_isValid_30 : dGF m4_isValid 30 4 7 33 := ⟨33, by decide +kernel, t_176, ⟨by decide, by decide⟩, rfl⟩
theorem r4_isValid_33 : dIL m4_isValid 33 5 35 := Or.inr ⟨by decide +kernel, rfl⟩
theorem r4_isValid_35 : dO m4_isValid 35 .iaload 36 := ⟨by decide +kernel, rfl⟩
theorem r4_isValid_36 : dAL m4_isValid 36 0 37 := Or.inl ⟨0, by decide +kernel, rfl, rfl⟩
theorem r4_isValid_37 : dGF m4_isValid 37 4 8 40 := ⟨36, by decide +kernel, t_177, ⟨by decide, by decide⟩, rfl⟩
theorem r4_isValid_40 : dIL m4_isValid 40 5 42 := Or.inr ⟨by decide +kernel, rfl⟩
theorem r4_isValid_42 : dO m4_isValid 42 .iaload 43 := ⟨by decide +kernel, rfl⟩
theorem r4_isValid_43 : dCS m4_isValid 43 m6_holds 46 := Or.inr ⟨107, "WantPlots", by decide +kernel, tn_688, Nat.le_of_ble_eq_true rfl, rfl⟩
theorem r4_isValid_46 : dJ m4_isValid 46 (.ifCond .ne) 49 51 := ⟨5, by decide +kernel, rfl, rfl⟩
theorem r4_isValid_49 : dKI m4_isValid 49 0 50 := Or.inl ⟨0, by decide +kernel, rfl, rfl⟩
theorem r4_isValid_50 : dO m4_isValid 50 .ireturn 51 := ⟨by decide +kernel, rfl⟩
theorem r4_isValid_51 : dIL m4_isValid 51 4 53 := Or.inr ⟨by decide +kernel, rfl⟩
theorem r4_isValid_53 : dAL m4_isValid 53 0 54 := Or.inl ⟨0, by decide +kernel, rfl, rfl⟩
theorem r4_isValid_54 : dGF m4_isValid 54 4 9 57 := ⟨39, by decide +kernel, t_178, ⟨by decide, by decide⟩, rfl⟩
theorem r4_isValid_57 : dIL m4_isValid 57 5 59 := Or.inr ⟨by decide +kernel, rfl⟩
theorem r4_isValid_59 : dO m4_isValid 59 .iaload 60 := ⟨by decide +kernel, rfl⟩
theorem r4_isValid_60 : dAL m4_isValid 60 0 61 := Or.inl ⟨0, by decide +kernel, rfl, rfl⟩
theorem r4_isValid_61 : dGF m4_isValid 61 4 10 64 := ⟨42, by decide +kernel, t_179, ⟨by decide, by decide⟩, rfl⟩
theorem r4_isValid_64 : dIL m4_isValid 64 5 66 := Or.inr ⟨by decide +kernel, rfl⟩
theorem r4_isValid_66 : dO m4_isValid 66 .iaload 67 := ⟨by decide +kernel, rfl⟩
theorem r4_isValid_67 : dCS m4_isValid 67 m6_changed 70 := Or.inr ⟨70, "WantPlots", by decide +kernel, tn_566, Nat.le_of_ble_eq_true rfl, rfl⟩
theorem r4_isValid_70 : dIS m4_isValid 70 4 72 := ⟨Or.inr ⟨by decide +kernel, rfl⟩, Nat.le_of_ble_eq_true rfl⟩
theorem r4_isValid_72 : dII m4_isValid 72 5 1 75 := ⟨1, by decide +kernel, rfl, rfl, Nat.le_of_ble_eq_true rfl⟩
theorem r4_isValid_75 : dJ m4_isValid 75 .goto 78 9 := ⟨(-66), by decide +kernel, rfl, rfl⟩
theorem r4_isValid_78 : dIL m4_isValid 78 4 80 := Or.inr ⟨by decide +kernel, rfl⟩
theorem r4_isValid_80 : dIL m4_isValid 80 2 81 := Or.inl ⟨2, by decide +kernel, rfl, rfl⟩
theorem r4_isValid_81 : dIL m4_isValid 81 3 82 := Or.inl ⟨3, by decide +kernel, rfl, rfl⟩
theorem r4_isValid_82 : dCS m4_isValid 82 m6_holds 85 := Or.inr ⟨107, "WantPlots", by decide +kernel, tn_688, Nat.le_of_ble_eq_true rfl, rfl⟩
theorem r4_isValid_85 : dO m4_isValid 85 .ireturn 86 := ⟨by decide +kernel, rfl⟩
theorem r4_isDull_0 : dIL m4_isDull 0 2 1 := Or.inl ⟨2, by decide +kernel, rfl, rfl⟩
theorem r4_isDull_1 : dIL m4_isDull 1 1 2 := Or.inl ⟨1, by decide +kernel, rfl, rfl⟩
theorem r4_isDull_2 : dCS m4_isDull 2 m6_contains 5 := Or.inr ⟨87, "WantPlots", by decide +kernel, tn_575, Nat.le_of_ble_eq_true rfl, rfl⟩
theorem r4_isDull_5 : dJ m4_isDull 5 (.ifCond .eq) 8 29 := ⟨24, by decide +kernel, rfl, rfl⟩
theorem r4_isDull_8 : dAL m4_isDull 8 0 9 := Or.inl ⟨0, by decide +kernel, rfl, rfl⟩
theorem r4_isDull_9 : dIL m4_isDull 9 2 10 := Or.inl ⟨2, by decide +kernel, rfl, rfl⟩
theorem r4_isDull_10 : dKI m4_isDull 10 1 11 := Or.inl ⟨1, by decide +kernel, rfl, rfl⟩
theorem r4_isDull_11 : dIL m4_isDull 11 1 12 := Or.inl ⟨1, by decide +kernel, rfl, rfl⟩
theorem r4_isDull_12 : dO m4_isDull 12 .ishl 13 := ⟨by decide +kernel, rfl⟩
theorem r4_isDull_13 : dKI m4_isDull 13 (-1) 14 := Or.inl ⟨(-1), by decide +kernel, rfl, rfl⟩
theorem r4_isDull_14 : dO m4_isDull 14 .ixor 15 := ⟨by decide +kernel, rfl⟩
theorem r4_isDull_15 : dO m4_isDull 15 .iand 16 := ⟨by decide +kernel, rfl⟩
theorem r4_isDull_16 : dIL m4_isDull 16 3 17 := Or.inl ⟨3, by decide +kernel, rfl, rfl⟩
theorem r4_isDull_17 : dIL m4_isDull 17 4 19 := Or.inr ⟨by decide +kernel, rfl⟩
theorem r4_isDull_19 : dCV m4_isDull 19 m4_isValid 22 := ⟨111, by decide +kernel, t_684, Nat.le_of_ble_eq_true rfl, rfl⟩
theorem r4_isDull_22 : dJ m4_isDull 22 (.ifCond .eq) 25 29 := ⟨7, by decide +kernel, rfl, rfl⟩
theorem r4_isDull_25 : dKI m4_isDull 25 1 26 := Or.inl ⟨1, by decide +kernel, rfl, rfl⟩
theorem r4_isDull_26 : dJ m4_isDull 26 .goto 29 30 := ⟨4, by decide +kernel, rfl, rfl⟩
theorem r4_isDull_29 : dKI m4_isDull 29 0 30 := Or.inl ⟨0, by decide +kernel, rfl, rfl⟩
theorem r4_isDull_30 : dO m4_isDull 30 .ireturn 31 := ⟨by decide +kernel, rfl⟩
theorem r4_dullSteps_0 : dAL m4_dullSteps 0 0 1 := Or.inl ⟨0, by decide +kernel, rfl, rfl⟩
theorem r4_dullSteps_1 : dCV m4_dullSteps 1 m4_allSteps 4 := ⟨114, by decide +kernel, t_698, Nat.le_of_ble_eq_true rfl, rfl⟩
theorem r4_dullSteps_4 : dIS m4_dullSteps 4 3 5 := ⟨Or.inl ⟨3, by decide +kernel, rfl, rfl⟩, Nat.le_of_ble_eq_true rfl⟩
theorem r4_dullSteps_5 : dKI m4_dullSteps 5 0 6 := Or.inl ⟨0, by decide +kernel, rfl, rfl⟩
theorem r4_dullSteps_6 : dIS m4_dullSteps 6 4 8 := ⟨Or.inr ⟨by decide +kernel, rfl⟩, Nat.le_of_ble_eq_true rfl⟩
theorem r4_dullSteps_8 : dKI m4_dullSteps 8 0 9 := Or.inl ⟨0, by decide +kernel, rfl, rfl⟩
theorem r4_dullSteps_9 : dIS m4_dullSteps 9 5 11 := ⟨Or.inr ⟨by decide +kernel, rfl⟩, Nat.le_of_ble_eq_true rfl⟩
theorem r4_dullSteps_11 : dIL m4_dullSteps 11 5 13 := Or.inr ⟨by decide +kernel, rfl⟩
theorem r4_dullSteps_13 : dAL m4_dullSteps 13 0 14 := Or.inl ⟨0, by decide +kernel, rfl, rfl⟩
theorem r4_dullSteps_14 : dGF m4_dullSteps 14 4 12 17 := ⟨48, by decide +kernel, t_181, ⟨by decide, by decide⟩, rfl⟩
theorem r4_dullSteps_17 : dJ m4_dullSteps 17 (.if_icmp .ge) 20 41 := ⟨24, by decide +kernel, rfl, rfl⟩
theorem r4_dullSteps_20 : dAL m4_dullSteps 20 0 21 := Or.inl ⟨0, by decide +kernel, rfl, rfl⟩
theorem r4_dullSteps_21 : dIL m4_dullSteps 21 5 23 := Or.inr ⟨by decide +kernel, rfl⟩
theorem r4_dullSteps_23 : dIL m4_dullSteps 23 3 24 := Or.inl ⟨3, by decide +kernel, rfl, rfl⟩
theorem r4_dullSteps_24 : dIL m4_dullSteps 24 1 25 := Or.inl ⟨1, by decide +kernel, rfl, rfl⟩
theorem r4_dullSteps_25 : dIL m4_dullSteps 25 2 26 := Or.inl ⟨2, by decide +kernel, rfl, rfl⟩
theorem r4_dullSteps_26 : dCV m4_dullSteps 26 m4_isDull 29 := ⟨118, by decide +kernel, t_699, Nat.le_of_ble_eq_true rfl, rfl⟩
theorem r4_dullSteps_29 : dJ m4_dullSteps 29 (.ifCond .eq) 32 35 := ⟨6, by decide +kernel, rfl, rfl⟩
theorem r4_dullSteps_32 : dII m4_dullSteps 32 4 1 35 := ⟨1, by decide +kernel, rfl, rfl, Nat.le_of_ble_eq_true rfl⟩
theorem r4_dullSteps_35 : dII m4_dullSteps 35 5 1 38 := ⟨1, by decide +kernel, rfl, rfl, Nat.le_of_ble_eq_true rfl⟩
theorem r4_dullSteps_38 : dJ m4_dullSteps 38 .goto 41 11 := ⟨(-27), by decide +kernel, rfl, rfl⟩
theorem r4_dullSteps_41 : dIL m4_dullSteps 41 4 43 := Or.inr ⟨by decide +kernel, rfl⟩
theorem r4_dullSteps_43 : dO m4_dullSteps 43 .ireturn 44 := ⟨by decide +kernel, rfl⟩
theorem r4_firstDull_0 : dKI m4_firstDull 0 0 1 := Or.inl ⟨0, by decide +kernel, rfl, rfl⟩
theorem r4_firstDull_1 : dIS m4_firstDull 1 4 3 := ⟨Or.inr ⟨by decide +kernel, rfl⟩, Nat.le_of_ble_eq_true rfl⟩
theorem r4_firstDull_3 : dIL m4_firstDull 3 4 5 := Or.inr ⟨by decide +kernel, rfl⟩
theorem r4_firstDull_5 : dAL m4_firstDull 5 0 6 := Or.inl ⟨0, by decide +kernel, rfl, rfl⟩
theorem r4_firstDull_6 : dGF m4_firstDull 6 4 12 9 := ⟨48, by decide +kernel, t_181, ⟨by decide, by decide⟩, rfl⟩
theorem r4_firstDull_9 : dJ m4_firstDull 9 (.if_icmp .ge) 12 33 := ⟨24, by decide +kernel, rfl, rfl⟩
theorem r4_firstDull_12 : dAL m4_firstDull 12 0 13 := Or.inl ⟨0, by decide +kernel, rfl, rfl⟩
theorem r4_firstDull_13 : dIL m4_firstDull 13 4 15 := Or.inr ⟨by decide +kernel, rfl⟩
theorem r4_firstDull_15 : dIL m4_firstDull 15 1 16 := Or.inl ⟨1, by decide +kernel, rfl, rfl⟩
theorem r4_firstDull_16 : dIL m4_firstDull 16 2 17 := Or.inl ⟨2, by decide +kernel, rfl, rfl⟩
theorem r4_firstDull_17 : dIL m4_firstDull 17 3 18 := Or.inl ⟨3, by decide +kernel, rfl, rfl⟩
theorem r4_firstDull_18 : dCV m4_firstDull 18 m4_isDull 21 := ⟨118, by decide +kernel, t_699, Nat.le_of_ble_eq_true rfl, rfl⟩
theorem r4_firstDull_21 : dJ m4_firstDull 21 (.ifCond .eq) 24 27 := ⟨6, by decide +kernel, rfl, rfl⟩
theorem r4_firstDull_24 : dIL m4_firstDull 24 4 26 := Or.inr ⟨by decide +kernel, rfl⟩
theorem r4_firstDull_26 : dO m4_firstDull 26 .ireturn 27 := ⟨by decide +kernel, rfl⟩
theorem r4_firstDull_27 : dII m4_firstDull 27 4 1 30 := ⟨1, by decide +kernel, rfl, rfl, Nat.le_of_ble_eq_true rfl⟩
theorem r4_firstDull_30 : dJ m4_firstDull 30 .goto 33 3 := ⟨(-27), by decide +kernel, rfl, rfl⟩
theorem r4_firstDull_33 : dKI m4_firstDull 33 (-1) 34 := Or.inl ⟨(-1), by decide +kernel, rfl, rfl⟩
theorem r4_firstDull_34 : dO m4_firstDull 34 .ireturn 35 := ⟨by decide +kernel, rfl⟩
theorem r4_minimalSteps_0 : dAL m4_minimalSteps 0 0 1 := Or.inl ⟨0, by decide +kernel, rfl, rfl⟩
theorem r4_minimalSteps_1 : dCV m4_minimalSteps 1 m4_allSteps 4 := ⟨114, by decide +kernel, t_698, Nat.le_of_ble_eq_true rfl, rfl⟩
theorem r4_minimalSteps_4 : dIS m4_minimalSteps 4 3 5 := ⟨Or.inl ⟨3, by decide +kernel, rfl, rfl⟩, Nat.le_of_ble_eq_true rfl⟩
theorem r4_minimalSteps_5 : dAL m4_minimalSteps 5 0 6 := Or.inl ⟨0, by decide +kernel, rfl, rfl⟩
theorem r4_minimalSteps_6 : dGF m4_minimalSteps 6 4 12 9 := ⟨48, by decide +kernel, t_181, ⟨by decide, by decide⟩, rfl⟩
theorem r4_minimalSteps_9 : dIS m4_minimalSteps 9 4 11 := ⟨Or.inr ⟨by decide +kernel, rfl⟩, Nat.le_of_ble_eq_true rfl⟩
theorem r4_minimalSteps_11 : dIL m4_minimalSteps 11 4 13 := Or.inr ⟨by decide +kernel, rfl⟩
theorem r4_minimalSteps_13 : dJ m4_minimalSteps 13 (.ifCond .le) 16 49 := ⟨36, by decide +kernel, rfl, rfl⟩
theorem r4_minimalSteps_16 : dAL m4_minimalSteps 16 0 17 := Or.inl ⟨0, by decide +kernel, rfl, rfl⟩
theorem r4_minimalSteps_17 : dIL m4_minimalSteps 17 3 18 := Or.inl ⟨3, by decide +kernel, rfl, rfl⟩
theorem r4_minimalSteps_18 : dIL m4_minimalSteps 18 1 19 := Or.inl ⟨1, by decide +kernel, rfl, rfl⟩
theorem r4_minimalSteps_19 : dIL m4_minimalSteps 19 2 20 := Or.inl ⟨2, by decide +kernel, rfl, rfl⟩
theorem r4_minimalSteps_20 : dCV m4_minimalSteps 20 m4_firstDull 23 := ⟨122, by decide +kernel, t_704, Nat.le_of_ble_eq_true rfl, rfl⟩
theorem r4_minimalSteps_23 : dIS m4_minimalSteps 23 5 25 := ⟨Or.inr ⟨by decide +kernel, rfl⟩, Nat.le_of_ble_eq_true rfl⟩
theorem r4_minimalSteps_25 : dIL m4_minimalSteps 25 5 27 := Or.inr ⟨by decide +kernel, rfl⟩
theorem r4_minimalSteps_27 : dKI m4_minimalSteps 27 (-1) 28 := Or.inl ⟨(-1), by decide +kernel, rfl, rfl⟩
theorem r4_minimalSteps_28 : dJ m4_minimalSteps 28 (.if_icmp .ne) 31 34 := ⟨6, by decide +kernel, rfl, rfl⟩
theorem r4_minimalSteps_31 : dJ m4_minimalSteps 31 .goto 34 49 := ⟨18, by decide +kernel, rfl, rfl⟩
theorem r4_minimalSteps_34 : dIL m4_minimalSteps 34 3 35 := Or.inl ⟨3, by decide +kernel, rfl, rfl⟩
theorem r4_minimalSteps_35 : dKI m4_minimalSteps 35 1 36 := Or.inl ⟨1, by decide +kernel, rfl, rfl⟩
theorem r4_minimalSteps_36 : dIL m4_minimalSteps 36 5 38 := Or.inr ⟨by decide +kernel, rfl⟩
theorem r4_minimalSteps_38 : dO m4_minimalSteps 38 .ishl 39 := ⟨by decide +kernel, rfl⟩
theorem r4_minimalSteps_39 : dKI m4_minimalSteps 39 (-1) 40 := Or.inl ⟨(-1), by decide +kernel, rfl, rfl⟩
theorem r4_minimalSteps_40 : dO m4_minimalSteps 40 .ixor 41 := ⟨by decide +kernel, rfl⟩
theorem r4_minimalSteps_41 : dO m4_minimalSteps 41 .iand 42 := ⟨by decide +kernel, rfl⟩
theorem r4_minimalSteps_42 : dIS m4_minimalSteps 42 3 43 := ⟨Or.inl ⟨3, by decide +kernel, rfl, rfl⟩, Nat.le_of_ble_eq_true rfl⟩
theorem r4_minimalSteps_43 : dII m4_minimalSteps 43 4 (-1) 46 := ⟨(-1), by decide +kernel, rfl, rfl, Nat.le_of_ble_eq_true rfl⟩
theorem r4_minimalSteps_46 : dJ m4_minimalSteps 46 .goto 49 11 := ⟨(-35), by decide +kernel, rfl, rfl⟩
theorem r4_minimalSteps_49 : dIL m4_minimalSteps 49 3 50 := Or.inl ⟨3, by decide +kernel, rfl, rfl⟩
theorem r4_minimalSteps_50 : dO m4_minimalSteps 50 .ireturn 51 := ⟨by decide +kernel, rfl⟩
theorem r5_init_0 (x0 s0 : Nat) : dAL (m5_init x0 s0) 0 0 1 := Or.inl ⟨0, (show decode cX5_init 0 = .ok (.aload_n 0, 1) by decide +kernel), rfl, rfl⟩
theorem r5_init_1 (x0 s0 : Nat) : dOI (m5_init x0 s0) 1 4 := ⟨3, (show decode cX5_init 1 = .ok (.invokespecial 3, 3) by decide +kernel), t_277, Nat.le_of_ble_eq_true rfl, rfl⟩
theorem r5_init_4 (x0 s0 : Nat) : dAL (m5_init x0 s0) 4 0 5 := Or.inl ⟨0, (show decode cX5_init 4 = .ok (.aload_n 0, 1) by decide +kernel), rfl, rfl⟩
theorem r5_init_5 (x0 s0 : Nat) : dKI (m5_init x0 s0) 5 4 6 := Or.inl ⟨4, (show decode cX5_init 5 = .ok (.iconst 4, 1) by decide +kernel), rfl, rfl⟩
theorem r5_init_6 (x0 s0 : Nat) : dNA (m5_init x0 s0) 6 .int 8 := ⟨(show decode cX5_init 6 = .ok (.newarray .int, 2) by decide +kernel), t_139, rfl⟩
theorem r5_init_8 (x0 s0 : Nat) : dPF (m5_init x0 s0) 8 5 0 11 := ⟨9, (show decode cX5_init 8 = .ok (.putfield 9, 3) by decide +kernel), t_278, ⟨by decide, by decide⟩, rfl⟩
theorem r5_init_11 (x0 s0 : Nat) : dAL (m5_init x0 s0) 11 0 12 := Or.inl ⟨0, (show decode cX5_init 11 = .ok (.aload_n 0, 1) by decide +kernel), rfl, rfl⟩
theorem r5_init_12 (x0 s0 : Nat) : dKI (m5_init x0 s0) 12 4 13 := Or.inl ⟨4, (show decode cX5_init 12 = .ok (.iconst 4, 1) by decide +kernel), rfl, rfl⟩
theorem r5_init_13 (x0 s0 : Nat) : dNA (m5_init x0 s0) 13 .int 15 := ⟨(show decode cX5_init 13 = .ok (.newarray .int, 2) by decide +kernel), t_139, rfl⟩
theorem r5_init_15 (x0 s0 : Nat) : dPF (m5_init x0 s0) 15 5 1 18 := ⟨15, (show decode cX5_init 15 = .ok (.putfield 15, 3) by decide +kernel), t_280, ⟨by decide, by decide⟩, rfl⟩
theorem r5_init_18 (x0 s0 : Nat) : dAL (m5_init x0 s0) 18 0 19 := Or.inl ⟨0, (show decode cX5_init 18 = .ok (.aload_n 0, 1) by decide +kernel), rfl, rfl⟩
theorem r5_init_19 (x0 s0 : Nat) : dKI (m5_init x0 s0) 19 4 20 := Or.inl ⟨4, (show decode cX5_init 19 = .ok (.iconst 4, 1) by decide +kernel), rfl, rfl⟩
theorem r5_init_20 (x0 s0 : Nat) : dNA (m5_init x0 s0) 20 .int 22 := ⟨(show decode cX5_init 20 = .ok (.newarray .int, 2) by decide +kernel), t_139, rfl⟩
theorem r5_init_22 (x0 s0 : Nat) : dPF (m5_init x0 s0) 22 5 2 25 := ⟨18, (show decode cX5_init 22 = .ok (.putfield 18, 3) by decide +kernel), t_283, ⟨by decide, by decide⟩, rfl⟩
theorem r5_init_25 (x0 s0 : Nat) : dAL (m5_init x0 s0) 25 0 26 := Or.inl ⟨0, (show decode cX5_init 25 = .ok (.aload_n 0, 1) by decide +kernel), rfl, rfl⟩
theorem r5_init_26 (x0 s0 : Nat) : dKI (m5_init x0 s0) 26 4 27 := Or.inl ⟨4, (show decode cX5_init 26 = .ok (.iconst 4, 1) by decide +kernel), rfl, rfl⟩
theorem r5_init_27 (x0 s0 : Nat) : dNA (m5_init x0 s0) 27 .int 29 := ⟨(show decode cX5_init 27 = .ok (.newarray .int, 2) by decide +kernel), t_139, rfl⟩
theorem r5_init_29 (x0 s0 : Nat) : dPF (m5_init x0 s0) 29 5 3 32 := ⟨21, (show decode cX5_init 29 = .ok (.putfield 21, 3) by decide +kernel), t_286, ⟨by decide, by decide⟩, rfl⟩
theorem r5_init_32 (x0 s0 : Nat) : dAL (m5_init x0 s0) 32 0 33 := Or.inl ⟨0, (show decode cX5_init 32 = .ok (.aload_n 0, 1) by decide +kernel), rfl, rfl⟩
theorem r5_init_33 (x0 s0 : Nat) : dKI (m5_init x0 s0) 33 10 35 := Or.inr (Or.inl ⟨10, (show decode cX5_init 33 = .ok (.bipush 10, 2) by decide +kernel), rfl, rfl⟩)
theorem r5_init_35 (x0 s0 : Nat) : dNA (m5_init x0 s0) 35 .int 37 := ⟨(show decode cX5_init 35 = .ok (.newarray .int, 2) by decide +kernel), t_139, rfl⟩
theorem r5_init_37 (x0 s0 : Nat) : dPF (m5_init x0 s0) 37 5 4 40 := ⟨24, (show decode cX5_init 37 = .ok (.putfield 24, 3) by decide +kernel), t_289, ⟨by decide, by decide⟩, rfl⟩
theorem r5_init_40 (x0 s0 : Nat) : dAL (m5_init x0 s0) 40 0 41 := Or.inl ⟨0, (show decode cX5_init 40 = .ok (.aload_n 0, 1) by decide +kernel), rfl, rfl⟩
theorem r5_init_41 (x0 s0 : Nat) : dKI (m5_init x0 s0) 41 10 43 := Or.inr (Or.inl ⟨10, (show decode cX5_init 41 = .ok (.bipush 10, 2) by decide +kernel), rfl, rfl⟩)
theorem r5_init_43 (x0 s0 : Nat) : dNA (m5_init x0 s0) 43 .int 45 := ⟨(show decode cX5_init 43 = .ok (.newarray .int, 2) by decide +kernel), t_139, rfl⟩
theorem r5_init_45 (x0 s0 : Nat) : dPF (m5_init x0 s0) 45 5 5 48 := ⟨27, (show decode cX5_init 45 = .ok (.putfield 27, 3) by decide +kernel), t_291, ⟨by decide, by decide⟩, rfl⟩
theorem r5_init_48 (x0 s0 : Nat) : dAL (m5_init x0 s0) 48 0 49 := Or.inl ⟨0, (show decode cX5_init 48 = .ok (.aload_n 0, 1) by decide +kernel), rfl, rfl⟩
theorem r5_init_49 (x0 s0 : Nat) : dKI (m5_init x0 s0) 49 10 51 := Or.inr (Or.inl ⟨10, (show decode cX5_init 49 = .ok (.bipush 10, 2) by decide +kernel), rfl, rfl⟩)
theorem r5_init_51 (x0 s0 : Nat) : dNA (m5_init x0 s0) 51 .int 53 := ⟨(show decode cX5_init 51 = .ok (.newarray .int, 2) by decide +kernel), t_139, rfl⟩
theorem r5_init_53 (x0 s0 : Nat) : dPF (m5_init x0 s0) 53 5 6 56 := ⟨30, (show decode cX5_init 53 = .ok (.putfield 30, 3) by decide +kernel), t_297, ⟨by decide, by decide⟩, rfl⟩
theorem r5_init_56 (x0 s0 : Nat) : dAL (m5_init x0 s0) 56 0 57 := Or.inl ⟨0, (show decode cX5_init 56 = .ok (.aload_n 0, 1) by decide +kernel), rfl, rfl⟩
theorem r5_init_57 (x0 s0 : Nat) : dKI (m5_init x0 s0) 57 10 59 := Or.inr (Or.inl ⟨10, (show decode cX5_init 57 = .ok (.bipush 10, 2) by decide +kernel), rfl, rfl⟩)
theorem r5_init_59 (x0 s0 : Nat) : dNA (m5_init x0 s0) 59 .int 61 := ⟨(show decode cX5_init 59 = .ok (.newarray .int, 2) by decide +kernel), t_139, rfl⟩
theorem r5_init_61 (x0 s0 : Nat) : dPF (m5_init x0 s0) 61 5 7 64 := ⟨33, (show decode cX5_init 61 = .ok (.putfield 33, 3) by decide +kernel), t_303, ⟨by decide, by decide⟩, rfl⟩
theorem r5_init_64 (x0 s0 : Nat) : dAL (m5_init x0 s0) 64 0 65 := Or.inl ⟨0, (show decode cX5_init 64 = .ok (.aload_n 0, 1) by decide +kernel), rfl, rfl⟩
theorem r5_init_65 (x0 s0 : Nat) : dKI (m5_init x0 s0) 65 10 67 := Or.inr (Or.inl ⟨10, (show decode cX5_init 65 = .ok (.bipush 10, 2) by decide +kernel), rfl, rfl⟩)
theorem r5_init_67 (x0 s0 : Nat) : dNA (m5_init x0 s0) 67 .int 69 := ⟨(show decode cX5_init 67 = .ok (.newarray .int, 2) by decide +kernel), t_139, rfl⟩
theorem r5_init_69 (x0 s0 : Nat) : dPF (m5_init x0 s0) 69 5 8 72 := ⟨36, (show decode cX5_init 69 = .ok (.putfield 36, 3) by decide +kernel), t_309, ⟨by decide, by decide⟩, rfl⟩
theorem r5_init_72 (x0 s0 : Nat) : dO (m5_init x0 s0) 72 .return_ 73 := ⟨(show decode cX5_init 72 = .ok (.return_, 1) by decide +kernel), rfl⟩
theorem r5_clear_0 : dAL m5_clear 0 0 1 := Or.inl ⟨0, by decide +kernel, rfl, rfl⟩
theorem r5_clear_1 : dKI m5_clear 1 0 2 := Or.inl ⟨0, by decide +kernel, rfl, rfl⟩
theorem r5_clear_2 : dPF m5_clear 2 5 9 5 := ⟨39, by decide +kernel, t_315, ⟨by decide, by decide⟩, rfl⟩
theorem r5_clear_5 : dAL m5_clear 5 0 6 := Or.inl ⟨0, by decide +kernel, rfl, rfl⟩
theorem r5_clear_6 : dKI m5_clear 6 0 7 := Or.inl ⟨0, by decide +kernel, rfl, rfl⟩
theorem r5_clear_7 : dPF m5_clear 7 5 10 10 := ⟨43, by decide +kernel, t_318, ⟨by decide, by decide⟩, rfl⟩
theorem r5_clear_10 : dAL m5_clear 10 0 11 := Or.inl ⟨0, by decide +kernel, rfl, rfl⟩
theorem r5_clear_11 : dKI m5_clear 11 0 12 := Or.inl ⟨0, by decide +kernel, rfl, rfl⟩
theorem r5_clear_12 : dPF m5_clear 12 5 11 15 := ⟨46, by decide +kernel, t_323, ⟨by decide, by decide⟩, rfl⟩
theorem r5_clear_15 : dO m5_clear 15 .return_ 16 := ⟨by decide +kernel, rfl⟩
theorem r5_addPerson_0 : dAL m5_addPerson 0 0 1 := Or.inl ⟨0, by decide +kernel, rfl, rfl⟩
theorem r5_addPerson_1 : dGF m5_addPerson 1 5 9 4 := ⟨39, by decide +kernel, t_315, ⟨by decide, by decide⟩, rfl⟩
theorem r5_addPerson_4 : dKI m5_addPerson 4 4 5 := Or.inl ⟨4, by decide +kernel, rfl, rfl⟩
theorem r5_addPerson_5 : dJ m5_addPerson 5 (.if_icmp .ge) 8 28 := ⟨23, by decide +kernel, rfl, rfl⟩
theorem r5_addPerson_8 : dAL m5_addPerson 8 0 9 := Or.inl ⟨0, by decide +kernel, rfl, rfl⟩
theorem r5_addPerson_9 : dGF m5_addPerson 9 5 0 12 := ⟨9, by decide +kernel, t_278, ⟨by decide, by decide⟩, rfl⟩
theorem r5_addPerson_12 : dAL m5_addPerson 12 0 13 := Or.inl ⟨0, by decide +kernel, rfl, rfl⟩
theorem r5_addPerson_13 : dGF m5_addPerson 13 5 9 16 := ⟨39, by decide +kernel, t_315, ⟨by decide, by decide⟩, rfl⟩
theorem r5_addPerson_16 : dIL m5_addPerson 16 1 17 := Or.inl ⟨1, by decide +kernel, rfl, rfl⟩
theorem r5_addPerson_17 : dO m5_addPerson 17 .iastore 18 := ⟨by decide +kernel, rfl⟩
theorem r5_addPerson_18 : dAL m5_addPerson 18 0 19 := Or.inl ⟨0, by decide +kernel, rfl, rfl⟩
theorem r5_addPerson_19 : dO m5_addPerson 19 .dup 20 := ⟨by decide +kernel, rfl⟩
theorem r5_addPerson_20 : dGF m5_addPerson 20 5 9 23 := ⟨39, by decide +kernel, t_315, ⟨by decide, by decide⟩, rfl⟩
theorem r5_addPerson_23 : dKI m5_addPerson 23 1 24 := Or.inl ⟨1, by decide +kernel, rfl, rfl⟩
theorem r5_addPerson_24 : dO m5_addPerson 24 .iadd 25 := ⟨by decide +kernel, rfl⟩
theorem r5_addPerson_25 : dPF m5_addPerson 25 5 9 28 := ⟨39, by decide +kernel, t_315, ⟨by decide, by decide⟩, rfl⟩
theorem r5_addPerson_28 : dO m5_addPerson 28 .return_ 29 := ⟨by decide +kernel, rfl⟩
theorem r5_addAct_0 : dAL m5_addAct 0 0 1 := Or.inl ⟨0, by decide +kernel, rfl, rfl⟩
theorem r5_addAct_1 : dGF m5_addAct 1 5 10 4 := ⟨43, by decide +kernel, t_318, ⟨by decide, by decide⟩, rfl⟩
theorem r5_addAct_4 : dKI m5_addAct 4 10 6 := Or.inr (Or.inl ⟨10, by decide +kernel, rfl, rfl⟩)
theorem r5_addAct_6 : dJ m5_addAct 6 (.if_icmp .ge) 9 69 := ⟨63, by decide +kernel, rfl, rfl⟩
theorem r5_addAct_9 : dAL m5_addAct 9 0 10 := Or.inl ⟨0, by decide +kernel, rfl, rfl⟩
theorem r5_addAct_10 : dGF m5_addAct 10 5 4 13 := ⟨24, by decide +kernel, t_289, ⟨by decide, by decide⟩, rfl⟩
theorem r5_addAct_13 : dAL m5_addAct 13 0 14 := Or.inl ⟨0, by decide +kernel, rfl, rfl⟩
theorem r5_addAct_14 : dGF m5_addAct 14 5 10 17 := ⟨43, by decide +kernel, t_318, ⟨by decide, by decide⟩, rfl⟩
theorem r5_addAct_17 : dIL m5_addAct 17 1 18 := Or.inl ⟨1, by decide +kernel, rfl, rfl⟩
theorem r5_addAct_18 : dO m5_addAct 18 .iastore 19 := ⟨by decide +kernel, rfl⟩
theorem r5_addAct_19 : dAL m5_addAct 19 0 20 := Or.inl ⟨0, by decide +kernel, rfl, rfl⟩
theorem r5_addAct_20 : dGF m5_addAct 20 5 5 23 := ⟨27, by decide +kernel, t_291, ⟨by decide, by decide⟩, rfl⟩
theorem r5_addAct_23 : dAL m5_addAct 23 0 24 := Or.inl ⟨0, by decide +kernel, rfl, rfl⟩
theorem r5_addAct_24 : dGF m5_addAct 24 5 10 27 := ⟨43, by decide +kernel, t_318, ⟨by decide, by decide⟩, rfl⟩
theorem r5_addAct_27 : dKI m5_addAct 27 0 28 := Or.inl ⟨0, by decide +kernel, rfl, rfl⟩
theorem r5_addAct_28 : dO m5_addAct 28 .iastore 29 := ⟨by decide +kernel, rfl⟩
theorem r5_addAct_29 : dAL m5_addAct 29 0 30 := Or.inl ⟨0, by decide +kernel, rfl, rfl⟩
theorem r5_addAct_30 : dGF m5_addAct 30 5 6 33 := ⟨30, by decide +kernel, t_297, ⟨by decide, by decide⟩, rfl⟩
theorem r5_addAct_33 : dAL m5_addAct 33 0 34 := Or.inl ⟨0, by decide +kernel, rfl, rfl⟩
theorem r5_addAct_34 : dGF m5_addAct 34 5 10 37 := ⟨43, by decide +kernel, t_318, ⟨by decide, by decide⟩, rfl⟩
theorem r5_addAct_37 : dKI m5_addAct 37 0 38 := Or.inl ⟨0, by decide +kernel, rfl, rfl⟩
theorem r5_addAct_38 : dO m5_addAct 38 .iastore 39 := ⟨by decide +kernel, rfl⟩
theorem r5_addAct_39 : dAL m5_addAct 39 0 40 := Or.inl ⟨0, by decide +kernel, rfl, rfl⟩
theorem r5_addAct_40 : dGF m5_addAct 40 5 7 43 := ⟨33, by decide +kernel, t_303, ⟨by decide, by decide⟩, rfl⟩
theorem r5_addAct_43 : dAL m5_addAct 43 0 44 := Or.inl ⟨0, by decide +kernel, rfl, rfl⟩
theorem r5_addAct_44 : dGF m5_addAct 44 5 10 47 := ⟨43, by decide +kernel, t_318, ⟨by decide, by decide⟩, rfl⟩
theorem r5_addAct_47 : dKI m5_addAct 47 0 48 := Or.inl ⟨0, by decide +kernel, rfl, rfl⟩
theorem r5_addAct_48 : dO m5_addAct 48 .iastore 49 := ⟨by decide +kernel, rfl⟩
theorem r5_addAct_49 : dAL m5_addAct 49 0 50 := Or.inl ⟨0, by decide +kernel, rfl, rfl⟩
theorem r5_addAct_50 : dGF m5_addAct 50 5 8 53 := ⟨36, by decide +kernel, t_309, ⟨by decide, by decide⟩, rfl⟩
theorem r5_addAct_53 : dAL m5_addAct 53 0 54 := Or.inl ⟨0, by decide +kernel, rfl, rfl⟩
theorem r5_addAct_54 : dGF m5_addAct 54 5 10 57 := ⟨43, by decide +kernel, t_318, ⟨by decide, by decide⟩, rfl⟩
theorem r5_addAct_57 : dKI m5_addAct 57 0 58 := Or.inl ⟨0, by decide +kernel, rfl, rfl⟩
theorem r5_addAct_58 : dO m5_addAct 58 .iastore 59 := ⟨by decide +kernel, rfl⟩
theorem r5_addAct_59 : dAL m5_addAct 59 0 60 := Or.inl ⟨0, by decide +kernel, rfl, rfl⟩
theorem r5_addAct_60 : dO m5_addAct 60 .dup 61 := ⟨by decide +kernel, rfl⟩
theorem r5_addAct_61 : dGF m5_addAct 61 5 10 64 := ⟨43, by decide +kernel, t_318, ⟨by decide, by decide⟩, rfl⟩
theorem r5_addAct_64 : dKI m5_addAct 64 1 65 := Or.inl ⟨1, by decide +kernel, rfl, rfl⟩
theorem r5_addAct_65 : dO m5_addAct 65 .iadd 66 := ⟨by decide +kernel, rfl⟩
theorem r5_addAct_66 : dPF m5_addAct 66 5 10 69 := ⟨43, by decide +kernel, t_318, ⟨by decide, by decide⟩, rfl⟩
theorem r5_addAct_69 : dO m5_addAct 69 .return_ 70 := ⟨by decide +kernel, rfl⟩
theorem r5_everybody_0 : dKI m5_everybody 0 1 1 := Or.inl ⟨1, by decide +kernel, rfl, rfl⟩
theorem r5_everybody_1 : dAL m5_everybody 1 0 2 := Or.inl ⟨0, by decide +kernel, rfl, rfl⟩
theorem r5_everybody_2 : dGF m5_everybody 2 5 9 5 := ⟨39, by decide +kernel, t_315, ⟨by decide, by decide⟩, rfl⟩
theorem r5_everybody_5 : dO m5_everybody 5 .ishl 6 := ⟨by decide +kernel, rfl⟩
theorem r5_everybody_6 : dKI m5_everybody 6 1 7 := Or.inl ⟨1, by decide +kernel, rfl, rfl⟩
theorem r5_everybody_7 : dO m5_everybody 7 .isub 8 := ⟨by decide +kernel, rfl⟩
theorem r5_everybody_8 : dO m5_everybody 8 .ireturn 9 := ⟨by decide +kernel, rfl⟩
theorem r5_everyAct_0 : dKI m5_everyAct 0 1 1 := Or.inl ⟨1, by decide +kernel, rfl, rfl⟩
theorem r5_everyAct_1 : dAL m5_everyAct 1 0 2 := Or.inl ⟨0, by decide +kernel, rfl, rfl⟩
theorem r5_everyAct_2 : dGF m5_everyAct 2 5 10 5 := ⟨43, by decide +kernel, t_318, ⟨by decide, by decide⟩, rfl⟩
theorem r5_everyAct_5 : dO m5_everyAct 5 .ishl 6 := ⟨by decide +kernel, rfl⟩
theorem r5_everyAct_6 : dKI m5_everyAct 6 1 7 := Or.inl ⟨1, by decide +kernel, rfl, rfl⟩
theorem r5_everyAct_7 : dO m5_everyAct 7 .isub 8 := ⟨by decide +kernel, rfl⟩
theorem r5_everyAct_8 : dO m5_everyAct 8 .ireturn 9 := ⟨by decide +kernel, rfl⟩
theorem r5_satisfiedBy_0 : dKI m5_satisfiedBy 0 0 1 := Or.inl ⟨0, by decide +kernel, rfl, rfl⟩
theorem r5_satisfiedBy_1 : dIS m5_satisfiedBy 1 2 2 := ⟨Or.inl ⟨2, by decide +kernel, rfl, rfl⟩, Nat.le_of_ble_eq_true rfl⟩
theorem r5_satisfiedBy_2 : dKI m5_satisfiedBy 2 0 3 := Or.inl ⟨0, by decide +kernel, rfl, rfl⟩
theorem r5_satisfiedBy_3 : dIS m5_satisfiedBy 3 3 4 := ⟨Or.inl ⟨3, by decide +kernel, rfl, rfl⟩, Nat.le_of_ble_eq_true rfl⟩
theorem r5_satisfiedBy_4 : dIL m5_satisfiedBy 4 3 5 := Or.inl ⟨3, by decide +kernel, rfl, rfl⟩
theorem r5_satisfiedBy_5 : dAL m5_satisfiedBy 5 0 6 := Or.inl ⟨0, by decide +kernel, rfl, rfl⟩
theorem r5_satisfiedBy_6 : dGF m5_satisfiedBy 6 5 9 9 := ⟨39, by decide +kernel, t_315, ⟨by decide, by decide⟩, rfl⟩
theorem r5_satisfiedBy_9 : dJ m5_satisfiedBy 9 (.if_icmp .ge) 12 43 := ⟨34, by decide +kernel, rfl, rfl⟩
theorem r5_satisfiedBy_12 : dIL m5_satisfiedBy 12 1 13 := Or.inl ⟨1, by decide +kernel, rfl, rfl⟩
theorem r5_satisfiedBy_13 : dAL m5_satisfiedBy 13 0 14 := Or.inl ⟨0, by decide +kernel, rfl, rfl⟩
theorem r5_satisfiedBy_14 : dGF m5_satisfiedBy 14 5 2 17 := ⟨18, by decide +kernel, t_283, ⟨by decide, by decide⟩, rfl⟩
theorem r5_satisfiedBy_17 : dIL m5_satisfiedBy 17 3 18 := Or.inl ⟨3, by decide +kernel, rfl, rfl⟩
theorem r5_satisfiedBy_18 : dO m5_satisfiedBy 18 .iaload 19 := ⟨by decide +kernel, rfl⟩
theorem r5_satisfiedBy_19 : dAL m5_satisfiedBy 19 0 20 := Or.inl ⟨0, by decide +kernel, rfl, rfl⟩
theorem r5_satisfiedBy_20 : dGF m5_satisfiedBy 20 5 3 23 := ⟨21, by decide +kernel, t_286, ⟨by decide, by decide⟩, rfl⟩
theorem r5_satisfiedBy_23 : dIL m5_satisfiedBy 23 3 24 := Or.inl ⟨3, by decide +kernel, rfl, rfl⟩
theorem r5_satisfiedBy_24 : dO m5_satisfiedBy 24 .iaload 25 := ⟨by decide +kernel, rfl⟩
theorem r5_satisfiedBy_25 : dCS m5_satisfiedBy 25 m6_holds 28 := Or.inr ⟨49, "WantPlots", by decide +kernel, tn_618, Nat.le_of_ble_eq_true rfl, rfl⟩
theorem r5_satisfiedBy_28 : dJ m5_satisfiedBy 28 (.ifCond .eq) 31 37 := ⟨9, by decide +kernel, rfl, rfl⟩
theorem r5_satisfiedBy_31 : dIL m5_satisfiedBy 31 2 32 := Or.inl ⟨2, by decide +kernel, rfl, rfl⟩
theorem r5_satisfiedBy_32 : dKI m5_satisfiedBy 32 1 33 := Or.inl ⟨1, by decide +kernel, rfl, rfl⟩
theorem r5_satisfiedBy_33 : dIL m5_satisfiedBy 33 3 34 := Or.inl ⟨3, by decide +kernel, rfl, rfl⟩
theorem r5_satisfiedBy_34 : dO m5_satisfiedBy 34 .ishl 35 := ⟨by decide +kernel, rfl⟩
theorem r5_satisfiedBy_35 : dO m5_satisfiedBy 35 .ior 36 := ⟨by decide +kernel, rfl⟩
theorem r5_satisfiedBy_36 : dIS m5_satisfiedBy 36 2 37 := ⟨Or.inl ⟨2, by decide +kernel, rfl, rfl⟩, Nat.le_of_ble_eq_true rfl⟩
theorem r5_satisfiedBy_37 : dII m5_satisfiedBy 37 3 1 40 := ⟨1, by decide +kernel, rfl, rfl, Nat.le_of_ble_eq_true rfl⟩
theorem r5_satisfiedBy_40 : dJ m5_satisfiedBy 40 .goto 43 4 := ⟨(-36), by decide +kernel, rfl, rfl⟩
theorem r5_satisfiedBy_43 : dIL m5_satisfiedBy 43 2 44 := Or.inl ⟨2, by decide +kernel, rfl, rfl⟩
theorem r5_satisfiedBy_44 : dO m5_satisfiedBy 44 .ireturn 45 := ⟨by decide +kernel, rfl⟩
theorem r5_goalsToBeTrue_0 : dAL m5_goalsToBeTrue 0 0 1 := Or.inl ⟨0, by decide +kernel, rfl, rfl⟩
theorem r5_goalsToBeTrue_1 : dAL m5_goalsToBeTrue 1 0 2 := Or.inl ⟨0, by decide +kernel, rfl, rfl⟩
theorem r5_goalsToBeTrue_2 : dGF m5_goalsToBeTrue 2 5 2 5 := ⟨18, by decide +kernel, t_283, ⟨by decide, by decide⟩, rfl⟩
theorem r5_goalsToBeTrue_5 : dIL m5_goalsToBeTrue 5 1 6 := Or.inl ⟨1, by decide +kernel, rfl, rfl⟩
theorem r5_goalsToBeTrue_6 : dCV m5_goalsToBeTrue 6 m5_factsOf 9 := ⟨53, by decide +kernel, t_667, Nat.le_of_ble_eq_true rfl, rfl⟩
theorem r5_goalsToBeTrue_9 : dO m5_goalsToBeTrue 9 .ireturn 10 := ⟨by decide +kernel, rfl⟩
theorem r5_goalsToBeFalse_0 : dAL m5_goalsToBeFalse 0 0 1 := Or.inl ⟨0, by decide +kernel, rfl, rfl⟩
theorem r5_goalsToBeFalse_1 : dAL m5_goalsToBeFalse 1 0 2 := Or.inl ⟨0, by decide +kernel, rfl, rfl⟩
theorem r5_goalsToBeFalse_2 : dGF m5_goalsToBeFalse 2 5 3 5 := ⟨21, by decide +kernel, t_286, ⟨by decide, by decide⟩, rfl⟩
theorem r5_goalsToBeFalse_5 : dIL m5_goalsToBeFalse 5 1 6 := Or.inl ⟨1, by decide +kernel, rfl, rfl⟩
theorem r5_goalsToBeFalse_6 : dCV m5_goalsToBeFalse 6 m5_factsOf 9 := ⟨53, by decide +kernel, t_667, Nat.le_of_ble_eq_true rfl, rfl⟩
theorem r5_goalsToBeFalse_9 : dO m5_goalsToBeFalse 9 .ireturn 10 := ⟨by decide +kernel, rfl⟩
theorem r5_factsOf_0 : dKI m5_factsOf 0 0 1 := Or.inl ⟨0, by decide +kernel, rfl, rfl⟩
theorem r5_factsOf_1 : dIS m5_factsOf 1 3 2 := ⟨Or.inl ⟨3, by decide +kernel, rfl, rfl⟩, Nat.le_of_ble_eq_true rfl⟩
theorem r5_factsOf_2 : dKI m5_factsOf 2 0 3 := Or.inl ⟨0, by decide +kernel, rfl, rfl⟩
theorem r5_factsOf_3 : dIS m5_factsOf 3 4 5 := ⟨Or.inr ⟨by decide +kernel, rfl⟩, Nat.le_of_ble_eq_true rfl⟩
theorem r5_factsOf_5 : dIL m5_factsOf 5 4 7 := Or.inr ⟨by decide +kernel, rfl⟩
theorem r5_factsOf_7 : dAL m5_factsOf 7 0 8 := Or.inl ⟨0, by decide +kernel, rfl, rfl⟩
theorem r5_factsOf_8 : dGF m5_factsOf 8 5 9 11 := ⟨39, by decide +kernel, t_315, ⟨by decide, by decide⟩, rfl⟩
theorem r5_factsOf_11 : dJ m5_factsOf 11 (.if_icmp .ge) 14 43 := ⟨32, by decide +kernel, rfl, rfl⟩
theorem r5_factsOf_14 : dIL m5_factsOf 14 4 16 := Or.inr ⟨by decide +kernel, rfl⟩
theorem r5_factsOf_16 : dAL m5_factsOf 16 1 17 := Or.inl ⟨1, by decide +kernel, rfl, rfl⟩
theorem r5_factsOf_17 : dO m5_factsOf 17 .arraylength 18 := ⟨by decide +kernel, rfl⟩
theorem r5_factsOf_18 : dJ m5_factsOf 18 (.if_icmp .ge) 21 43 := ⟨25, by decide +kernel, rfl, rfl⟩
theorem r5_factsOf_21 : dIL m5_factsOf 21 2 22 := Or.inl ⟨2, by decide +kernel, rfl, rfl⟩
theorem r5_factsOf_22 : dIL m5_factsOf 22 4 24 := Or.inr ⟨by decide +kernel, rfl⟩
theorem r5_factsOf_24 : dCS m5_factsOf 24 m6_contains 27 := Or.inr ⟨57, "WantPlots", by decide +kernel, tn_671, Nat.le_of_ble_eq_true rfl, rfl⟩
theorem r5_factsOf_27 : dJ m5_factsOf 27 (.ifCond .eq) 30 37 := ⟨10, by decide +kernel, rfl, rfl⟩
theorem r5_factsOf_30 : dIL m5_factsOf 30 3 31 := Or.inl ⟨3, by decide +kernel, rfl, rfl⟩
theorem r5_factsOf_31 : dAL m5_factsOf 31 1 32 := Or.inl ⟨1, by decide +kernel, rfl, rfl⟩
theorem r5_factsOf_32 : dIL m5_factsOf 32 4 34 := Or.inr ⟨by decide +kernel, rfl⟩
theorem r5_factsOf_34 : dO m5_factsOf 34 .iaload 35 := ⟨by decide +kernel, rfl⟩
theorem r5_factsOf_35 : dO m5_factsOf 35 .ior 36 := ⟨by decide +kernel, rfl⟩
theorem r5_factsOf_36 : dIS m5_factsOf 36 3 37 := ⟨Or.inl ⟨3, by decide +kernel, rfl, rfl⟩, Nat.le_of_ble_eq_true rfl⟩
theorem r5_factsOf_37 : dII m5_factsOf 37 4 1 40 := ⟨1, by decide +kernel, rfl, rfl, Nat.le_of_ble_eq_true rfl⟩
theorem r5_factsOf_40 : dJ m5_factsOf 40 .goto 43 5 := ⟨(-35), by decide +kernel, rfl, rfl⟩
theorem r5_factsOf_43 : dIL m5_factsOf 43 3 44 := Or.inl ⟨3, by decide +kernel, rfl, rfl⟩
theorem r5_factsOf_44 : dO m5_factsOf 44 .ireturn 45 := ⟨by decide +kernel, rfl⟩
