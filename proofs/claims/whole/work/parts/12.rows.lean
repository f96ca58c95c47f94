theorem rL_law_0 (L : Nat) (xs : Nat → Int32) : dNW (mL_law L xs) 0 6 3 := ⟨7, (show decode cL_law 0 = .ok (.new 7, 3) by decide +kernel), t_114, t_115, t_104, by decide, rfl⟩
theorem rL_law_3 (L : Nat) (xs : Nat → Int32) : dO (mL_law L xs) 3 .dup 4 := ⟨(show decode cL_law 3 = .ok (.dup, 1) by decide +kernel), rfl⟩
theorem rL_law_4 (L : Nat) (xs : Nat → Int32) (x1 s1 : Nat) : dCI (mL_law L xs) 4 (m6_init x1 s1) 7 := Or.inl ⟨9, (show decode cL_law 4 = .ok (.invokespecial 9, 3) by decide +kernel), t_116, Nat.le_of_ble_eq_true rfl, rfl⟩
theorem rL_law_7 (L : Nat) (xs : Nat → Int32) : dAS (mL_law L xs) 7 1 8 := ⟨Or.inl ⟨1, (show decode cL_law 7 = .ok (.astore_n 1, 1) by decide +kernel), rfl, rfl⟩, Nat.le_of_ble_eq_true rfl⟩
theorem rL_law_8 (L : Nat) (xs : Nat → Int32) : dNW (mL_law L xs) 8 7 11 := ⟨10, (show decode cL_law 8 = .ok (.new 10, 3) by decide +kernel), t_797, t_798, t_111, by decide, rfl⟩
theorem rL_law_11 (L : Nat) (xs : Nat → Int32) : dO (mL_law L xs) 11 .dup 12 := ⟨(show decode cL_law 11 = .ok (.dup, 1) by decide +kernel), rfl⟩
theorem rL_law_12 (L : Nat) (xs : Nat → Int32) (x1 s1 : Nat) : dCI (mL_law L xs) 12 (m7_init x1 s1) 15 := Or.inl ⟨12, (show decode cL_law 12 = .ok (.invokespecial 12, 3) by decide +kernel), t_799, Nat.le_of_ble_eq_true rfl, rfl⟩
theorem rL_law_15 (L : Nat) (xs : Nat → Int32) : dAS (mL_law L xs) 15 2 16 := ⟨Or.inl ⟨2, (show decode cL_law 15 = .ok (.astore_n 2, 1) by decide +kernel), rfl, rfl⟩, Nat.le_of_ble_eq_true rfl⟩
theorem rL_law_16 (L : Nat) (xs : Nat → Int32) : dKI (mL_law L xs) 16 0 17 := Or.inl ⟨0, (show decode cL_law 16 = .ok (.iconst 0, 1) by decide +kernel), rfl, rfl⟩
theorem rL_law_17 (L : Nat) (xs : Nat → Int32) : dIS (mL_law L xs) 17 3 18 := ⟨Or.inl ⟨3, (show decode cL_law 17 = .ok (.istore_n 3, 1) by decide +kernel), rfl, rfl⟩, Nat.le_of_ble_eq_true rfl⟩
theorem rL_law_18 (L : Nat) (xs : Nat → Int32) : dIL (mL_law L xs) 18 3 19 := Or.inl ⟨3, (show decode cL_law 18 = .ok (.iload_n 3, 1) by decide +kernel), rfl, rfl⟩
theorem rL_law_19 (L : Nat) (xs : Nat → Int32) : dAL (mL_law L xs) 19 0 20 := Or.inl ⟨0, (show decode cL_law 19 = .ok (.aload_n 0, 1) by decide +kernel), rfl, rfl⟩
theorem rL_law_20 (L : Nat) (xs : Nat → Int32) : dO (mL_law L xs) 20 .arraylength 21 := ⟨(show decode cL_law 20 = .ok (.arraylength, 1) by decide +kernel), rfl⟩
theorem rL_law_21 (L : Nat) (xs : Nat → Int32) : dKI (mL_law L xs) 21 4 22 := Or.inl ⟨4, (show decode cL_law 21 = .ok (.iconst 4, 1) by decide +kernel), rfl, rfl⟩
theorem rL_law_22 (L : Nat) (xs : Nat → Int32) : dO (mL_law L xs) 22 .isub 23 := ⟨(show decode cL_law 22 = .ok (.isub, 1) by decide +kernel), rfl⟩
theorem rL_law_23 (L : Nat) (xs : Nat → Int32) : dJ (mL_law L xs) 23 (.if_icmp .gt) 26 578 := ⟨555, (show decode cL_law 23 = .ok (.if_icmp .gt 555, 3) by decide +kernel), rfl, rfl⟩
theorem rL_law_26 (L : Nat) (xs : Nat → Int32) : dAL (mL_law L xs) 26 0 27 := Or.inl ⟨0, (show decode cL_law 26 = .ok (.aload_n 0, 1) by decide +kernel), rfl, rfl⟩
theorem rL_law_27 (L : Nat) (xs : Nat → Int32) : dIL (mL_law L xs) 27 3 28 := Or.inl ⟨3, (show decode cL_law 27 = .ok (.iload_n 3, 1) by decide +kernel), rfl, rfl⟩
theorem rL_law_28 (L : Nat) (xs : Nat → Int32) : dO (mL_law L xs) 28 .iaload 29 := ⟨(show decode cL_law 28 = .ok (.iaload, 1) by decide +kernel), rfl⟩
theorem rL_law_29 (L : Nat) (xs : Nat → Int32) : dKI (mL_law L xs) 29 31 31 := Or.inr (Or.inl ⟨31, (show decode cL_law 29 = .ok (.bipush 31, 2) by decide +kernel), rfl, rfl⟩)
theorem rL_law_31 (L : Nat) (xs : Nat → Int32) : dO (mL_law L xs) 31 .iand 32 := ⟨(show decode cL_law 31 = .ok (.iand, 1) by decide +kernel), rfl⟩
theorem rL_law_32 (L : Nat) (xs : Nat → Int32) : dSW (mL_law L xs) 32 [(0, 124), (1, 147), (2, 160), (3, 173), (4, 186), (5, 209), (6, 232), (7, 255), (8, 268), (9, 291), (10, 324), (11, 357), (12, 400), (13, 433), (14, 466), (15, 489), (16, 512), (17, 535), (18, 558)] 572 := ⟨540, 0, 18, #[92, 115, 128, 141, 154, 177, 200, 223, 236, 259, 292, 325, 368, 401, 434, 457, 480, 503, 526], 92, (show decode cL_law 32 = .ok (.tableswitch 540 0 18 #[92, 115, 128, 141, 154, 177, 200, 223, 236, 259, 292, 325, 368, 401, 434, 457, 480, 503, 526], 92) by decide +kernel), rfl, rfl, rfl, by decide +kernel, Nat.le_of_ble_eq_true rfl⟩
theorem rL_law_124 (L : Nat) (xs : Nat → Int32) : dAL (mL_law L xs) 124 1 125 := Or.inl ⟨1, (show decode cL_law 124 = .ok (.aload_n 1, 1) by decide +kernel), rfl, rfl⟩
theorem rL_law_125 (L : Nat) (xs : Nat → Int32) : dAL (mL_law L xs) 125 0 126 := Or.inl ⟨0, (show decode cL_law 125 = .ok (.aload_n 0, 1) by decide +kernel), rfl, rfl⟩
theorem rL_law_126 (L : Nat) (xs : Nat → Int32) : dIL (mL_law L xs) 126 3 127 := Or.inl ⟨3, (show decode cL_law 126 = .ok (.iload_n 3, 1) by decide +kernel), rfl, rfl⟩
theorem rL_law_127 (L : Nat) (xs : Nat → Int32) : dKI (mL_law L xs) 127 1 128 := Or.inl ⟨1, (show decode cL_law 127 = .ok (.iconst 1, 1) by decide +kernel), rfl, rfl⟩
theorem rL_law_128 (L : Nat) (xs : Nat → Int32) : dO (mL_law L xs) 128 .iadd 129 := ⟨(show decode cL_law 128 = .ok (.iadd, 1) by decide +kernel), rfl⟩
theorem rL_law_129 (L : Nat) (xs : Nat → Int32) : dO (mL_law L xs) 129 .iaload 130 := ⟨(show decode cL_law 129 = .ok (.iaload, 1) by decide +kernel), rfl⟩
theorem rL_law_130 (L : Nat) (xs : Nat → Int32) : dCV (mL_law L xs) 130 m6_letter 133 := ⟨13, (show decode cL_law 130 = .ok (.invokevirtual 13, 3) by decide +kernel), t_388, Nat.le_of_ble_eq_true rfl, rfl⟩
theorem rL_law_133 (L : Nat) (xs : Nat → Int32) : dAL (mL_law L xs) 133 2 134 := Or.inl ⟨2, (show decode cL_law 133 = .ok (.aload_n 2, 1) by decide +kernel), rfl, rfl⟩
theorem rL_law_134 (L : Nat) (xs : Nat → Int32) : dAL (mL_law L xs) 134 0 135 := Or.inl ⟨0, (show decode cL_law 134 = .ok (.aload_n 0, 1) by decide +kernel), rfl, rfl⟩
theorem rL_law_135 (L : Nat) (xs : Nat → Int32) : dIL (mL_law L xs) 135 3 136 := Or.inl ⟨3, (show decode cL_law 135 = .ok (.iload_n 3, 1) by decide +kernel), rfl, rfl⟩
theorem rL_law_136 (L : Nat) (xs : Nat → Int32) : dKI (mL_law L xs) 136 1 137 := Or.inl ⟨1, (show decode cL_law 136 = .ok (.iconst 1, 1) by decide +kernel), rfl, rfl⟩
theorem rL_law_137 (L : Nat) (xs : Nat → Int32) : dO (mL_law L xs) 137 .iadd 138 := ⟨(show decode cL_law 137 = .ok (.iadd, 1) by decide +kernel), rfl⟩
theorem rL_law_138 (L : Nat) (xs : Nat → Int32) : dO (mL_law L xs) 138 .iaload 139 := ⟨(show decode cL_law 138 = .ok (.iaload, 1) by decide +kernel), rfl⟩
theorem rL_law_139 (L : Nat) (xs : Nat → Int32) : dCV (mL_law L xs) 139 m7_letter 142 := ⟨17, (show decode cL_law 139 = .ok (.invokevirtual 17, 3) by decide +kernel), t_940, Nat.le_of_ble_eq_true rfl, rfl⟩
theorem rL_law_142 (L : Nat) (xs : Nat → Int32) : dJ (mL_law L xs) 142 (.if_icmp .eq) 145 572 := ⟨430, (show decode cL_law 142 = .ok (.if_icmp .eq 430, 3) by decide +kernel), rfl, rfl⟩
theorem rL_law_145 (L : Nat) (xs : Nat → Int32) : dKI (mL_law L xs) 145 0 146 := Or.inl ⟨0, (show decode cL_law 145 = .ok (.iconst 0, 1) by decide +kernel), rfl, rfl⟩
theorem rL_law_146 (L : Nat) (xs : Nat → Int32) : dO (mL_law L xs) 146 .ireturn 147 := ⟨(show decode cL_law 146 = .ok (.ireturn, 1) by decide +kernel), rfl⟩
theorem rL_law_147 (L : Nat) (xs : Nat → Int32) : dAL (mL_law L xs) 147 1 148 := Or.inl ⟨1, (show decode cL_law 147 = .ok (.aload_n 1, 1) by decide +kernel), rfl, rfl⟩
theorem rL_law_148 (L : Nat) (xs : Nat → Int32) : dCV (mL_law L xs) 148 m6_blank 151 := ⟨18, (show decode cL_law 148 = .ok (.invokevirtual 18, 3) by decide +kernel), t_396, Nat.le_of_ble_eq_true rfl, rfl⟩
theorem rL_law_151 (L : Nat) (xs : Nat → Int32) : dAL (mL_law L xs) 151 2 152 := Or.inl ⟨2, (show decode cL_law 151 = .ok (.aload_n 2, 1) by decide +kernel), rfl, rfl⟩
theorem rL_law_152 (L : Nat) (xs : Nat → Int32) : dCV (mL_law L xs) 152 m7_blank 155 := ⟨22, (show decode cL_law 152 = .ok (.invokevirtual 22, 3) by decide +kernel), t_947, Nat.le_of_ble_eq_true rfl, rfl⟩
theorem rL_law_155 (L : Nat) (xs : Nat → Int32) : dJ (mL_law L xs) 155 (.if_icmp .eq) 158 572 := ⟨417, (show decode cL_law 155 = .ok (.if_icmp .eq 417, 3) by decide +kernel), rfl, rfl⟩
theorem rL_law_158 (L : Nat) (xs : Nat → Int32) : dKI (mL_law L xs) 158 0 159 := Or.inl ⟨0, (show decode cL_law 158 = .ok (.iconst 0, 1) by decide +kernel), rfl, rfl⟩
theorem rL_law_159 (L : Nat) (xs : Nat → Int32) : dO (mL_law L xs) 159 .ireturn 160 := ⟨(show decode cL_law 159 = .ok (.ireturn, 1) by decide +kernel), rfl⟩
theorem rL_law_160 (L : Nat) (xs : Nat → Int32) : dAL (mL_law L xs) 160 1 161 := Or.inl ⟨1, (show decode cL_law 160 = .ok (.aload_n 1, 1) by decide +kernel), rfl, rfl⟩
theorem rL_law_161 (L : Nat) (xs : Nat → Int32) : dCV (mL_law L xs) 161 m6_fault 164 := ⟨23, (show decode cL_law 161 = .ok (.invokevirtual 23, 3) by decide +kernel), t_400, Nat.le_of_ble_eq_true rfl, rfl⟩
theorem rL_law_164 (L : Nat) (xs : Nat → Int32) : dAL (mL_law L xs) 164 2 165 := Or.inl ⟨2, (show decode cL_law 164 = .ok (.aload_n 2, 1) by decide +kernel), rfl, rfl⟩
theorem rL_law_165 (L : Nat) (xs : Nat → Int32) : dCV (mL_law L xs) 165 m7_fault 168 := ⟨26, (show decode cL_law 165 = .ok (.invokevirtual 26, 3) by decide +kernel), t_951, Nat.le_of_ble_eq_true rfl, rfl⟩
theorem rL_law_168 (L : Nat) (xs : Nat → Int32) : dJ (mL_law L xs) 168 (.if_icmp .eq) 171 572 := ⟨404, (show decode cL_law 168 = .ok (.if_icmp .eq 404, 3) by decide +kernel), rfl, rfl⟩
theorem rL_law_171 (L : Nat) (xs : Nat → Int32) : dKI (mL_law L xs) 171 0 172 := Or.inl ⟨0, (show decode cL_law 171 = .ok (.iconst 0, 1) by decide +kernel), rfl, rfl⟩
theorem rL_law_172 (L : Nat) (xs : Nat → Int32) : dO (mL_law L xs) 172 .ireturn 173 := ⟨(show decode cL_law 172 = .ok (.ireturn, 1) by decide +kernel), rfl⟩
theorem rL_law_173 (L : Nat) (xs : Nat → Int32) : dAL (mL_law L xs) 173 1 174 := Or.inl ⟨1, (show decode cL_law 173 = .ok (.aload_n 1, 1) by decide +kernel), rfl, rfl⟩
theorem rL_law_174 (L : Nat) (xs : Nat → Int32) : dCV (mL_law L xs) 174 m6_world 177 := ⟨27, (show decode cL_law 174 = .ok (.invokevirtual 27, 3) by decide +kernel), t_482, Nat.le_of_ble_eq_true rfl, rfl⟩
theorem rL_law_177 (L : Nat) (xs : Nat → Int32) : dAL (mL_law L xs) 177 2 178 := Or.inl ⟨2, (show decode cL_law 177 = .ok (.aload_n 2, 1) by decide +kernel), rfl, rfl⟩
theorem rL_law_178 (L : Nat) (xs : Nat → Int32) : dCV (mL_law L xs) 178 m7_world 181 := ⟨30, (show decode cL_law 178 = .ok (.invokevirtual 30, 3) by decide +kernel), t_1017, Nat.le_of_ble_eq_true rfl, rfl⟩
theorem rL_law_181 (L : Nat) (xs : Nat → Int32) : dJ (mL_law L xs) 181 (.if_icmp .eq) 184 572 := ⟨391, (show decode cL_law 181 = .ok (.if_icmp .eq 391, 3) by decide +kernel), rfl, rfl⟩
theorem rL_law_184 (L : Nat) (xs : Nat → Int32) : dKI (mL_law L xs) 184 0 185 := Or.inl ⟨0, (show decode cL_law 184 = .ok (.iconst 0, 1) by decide +kernel), rfl, rfl⟩
theorem rL_law_185 (L : Nat) (xs : Nat → Int32) : dO (mL_law L xs) 185 .ireturn 186 := ⟨(show decode cL_law 185 = .ok (.ireturn, 1) by decide +kernel), rfl⟩
theorem rL_law_186 (L : Nat) (xs : Nat → Int32) : dAL (mL_law L xs) 186 1 187 := Or.inl ⟨1, (show decode cL_law 186 = .ok (.aload_n 1, 1) by decide +kernel), rfl, rfl⟩
theorem rL_law_187 (L : Nat) (xs : Nat → Int32) : dAL (mL_law L xs) 187 0 188 := Or.inl ⟨0, (show decode cL_law 187 = .ok (.aload_n 0, 1) by decide +kernel), rfl, rfl⟩
theorem rL_law_188 (L : Nat) (xs : Nat → Int32) : dIL (mL_law L xs) 188 3 189 := Or.inl ⟨3, (show decode cL_law 188 = .ok (.iload_n 3, 1) by decide +kernel), rfl, rfl⟩
theorem rL_law_189 (L : Nat) (xs : Nat → Int32) : dKI (mL_law L xs) 189 1 190 := Or.inl ⟨1, (show decode cL_law 189 = .ok (.iconst 1, 1) by decide +kernel), rfl, rfl⟩
theorem rL_law_190 (L : Nat) (xs : Nat → Int32) : dO (mL_law L xs) 190 .iadd 191 := ⟨(show decode cL_law 190 = .ok (.iadd, 1) by decide +kernel), rfl⟩
theorem rL_law_191 (L : Nat) (xs : Nat → Int32) : dO (mL_law L xs) 191 .iaload 192 := ⟨(show decode cL_law 191 = .ok (.iaload, 1) by decide +kernel), rfl⟩
theorem rL_law_192 (L : Nat) (xs : Nat → Int32) : dCV (mL_law L xs) 192 m6_go 195 := ⟨31, (show decode cL_law 192 = .ok (.invokevirtual 31, 3) by decide +kernel), t_491, Nat.le_of_ble_eq_true rfl, rfl⟩
theorem rL_law_195 (L : Nat) (xs : Nat → Int32) : dAL (mL_law L xs) 195 2 196 := Or.inl ⟨2, (show decode cL_law 195 = .ok (.aload_n 2, 1) by decide +kernel), rfl, rfl⟩
theorem rL_law_196 (L : Nat) (xs : Nat → Int32) : dAL (mL_law L xs) 196 0 197 := Or.inl ⟨0, (show decode cL_law 196 = .ok (.aload_n 0, 1) by decide +kernel), rfl, rfl⟩
theorem rL_law_197 (L : Nat) (xs : Nat → Int32) : dIL (mL_law L xs) 197 3 198 := Or.inl ⟨3, (show decode cL_law 197 = .ok (.iload_n 3, 1) by decide +kernel), rfl, rfl⟩
theorem rL_law_198 (L : Nat) (xs : Nat → Int32) : dKI (mL_law L xs) 198 1 199 := Or.inl ⟨1, (show decode cL_law 198 = .ok (.iconst 1, 1) by decide +kernel), rfl, rfl⟩
theorem rL_law_199 (L : Nat) (xs : Nat → Int32) : dO (mL_law L xs) 199 .iadd 200 := ⟨(show decode cL_law 199 = .ok (.iadd, 1) by decide +kernel), rfl⟩
theorem rL_law_200 (L : Nat) (xs : Nat → Int32) : dO (mL_law L xs) 200 .iaload 201 := ⟨(show decode cL_law 200 = .ok (.iaload, 1) by decide +kernel), rfl⟩
theorem rL_law_201 (L : Nat) (xs : Nat → Int32) : dCV (mL_law L xs) 201 m7_go 204 := ⟨34, (show decode cL_law 201 = .ok (.invokevirtual 34, 3) by decide +kernel), t_1021, Nat.le_of_ble_eq_true rfl, rfl⟩
theorem rL_law_204 (L : Nat) (xs : Nat → Int32) : dJ (mL_law L xs) 204 (.if_icmp .eq) 207 572 := ⟨368, (show decode cL_law 204 = .ok (.if_icmp .eq 368, 3) by decide +kernel), rfl, rfl⟩
theorem rL_law_207 (L : Nat) (xs : Nat → Int32) : dKI (mL_law L xs) 207 0 208 := Or.inl ⟨0, (show decode cL_law 207 = .ok (.iconst 0, 1) by decide +kernel), rfl, rfl⟩
theorem rL_law_208 (L : Nat) (xs : Nat → Int32) : dO (mL_law L xs) 208 .ireturn 209 := ⟨(show decode cL_law 208 = .ok (.ireturn, 1) by decide +kernel), rfl⟩
theorem rL_law_209 (L : Nat) (xs : Nat → Int32) : dAL (mL_law L xs) 209 1 210 := Or.inl ⟨1, (show decode cL_law 209 = .ok (.aload_n 1, 1) by decide +kernel), rfl, rfl⟩
theorem rL_law_210 (L : Nat) (xs : Nat → Int32) : dAL (mL_law L xs) 210 0 211 := Or.inl ⟨0, (show decode cL_law 210 = .ok (.aload_n 0, 1) by decide +kernel), rfl, rfl⟩
theorem rL_law_211 (L : Nat) (xs : Nat → Int32) : dIL (mL_law L xs) 211 3 212 := Or.inl ⟨3, (show decode cL_law 211 = .ok (.iload_n 3, 1) by decide +kernel), rfl, rfl⟩
theorem rL_law_212 (L : Nat) (xs : Nat → Int32) : dKI (mL_law L xs) 212 1 213 := Or.inl ⟨1, (show decode cL_law 212 = .ok (.iconst 1, 1) by decide +kernel), rfl, rfl⟩
theorem rL_law_213 (L : Nat) (xs : Nat → Int32) : dO (mL_law L xs) 213 .iadd 214 := ⟨(show decode cL_law 213 = .ok (.iadd, 1) by decide +kernel), rfl⟩
theorem rL_law_214 (L : Nat) (xs : Nat → Int32) : dO (mL_law L xs) 214 .iaload 215 := ⟨(show decode cL_law 214 = .ok (.iaload, 1) by decide +kernel), rfl⟩
theorem rL_law_215 (L : Nat) (xs : Nat → Int32) : dCV (mL_law L xs) 215 m6_fate 218 := ⟨35, (show decode cL_law 215 = .ok (.invokevirtual 35, 3) by decide +kernel), t_586, Nat.le_of_ble_eq_true rfl, rfl⟩
theorem rL_law_218 (L : Nat) (xs : Nat → Int32) : dAL (mL_law L xs) 218 2 219 := Or.inl ⟨2, (show decode cL_law 218 = .ok (.aload_n 2, 1) by decide +kernel), rfl, rfl⟩
theorem rL_law_219 (L : Nat) (xs : Nat → Int32) : dAL (mL_law L xs) 219 0 220 := Or.inl ⟨0, (show decode cL_law 219 = .ok (.aload_n 0, 1) by decide +kernel), rfl, rfl⟩
theorem rL_law_220 (L : Nat) (xs : Nat → Int32) : dIL (mL_law L xs) 220 3 221 := Or.inl ⟨3, (show decode cL_law 220 = .ok (.iload_n 3, 1) by decide +kernel), rfl, rfl⟩
theorem rL_law_221 (L : Nat) (xs : Nat → Int32) : dKI (mL_law L xs) 221 1 222 := Or.inl ⟨1, (show decode cL_law 221 = .ok (.iconst 1, 1) by decide +kernel), rfl, rfl⟩
theorem rL_law_222 (L : Nat) (xs : Nat → Int32) : dO (mL_law L xs) 222 .iadd 223 := ⟨(show decode cL_law 222 = .ok (.iadd, 1) by decide +kernel), rfl⟩
theorem rL_law_223 (L : Nat) (xs : Nat → Int32) : dO (mL_law L xs) 223 .iaload 224 := ⟨(show decode cL_law 223 = .ok (.iaload, 1) by decide +kernel), rfl⟩
theorem rL_law_224 (L : Nat) (xs : Nat → Int32) : dCV (mL_law L xs) 224 m7_fate 227 := ⟨38, (show decode cL_law 224 = .ok (.invokevirtual 38, 3) by decide +kernel), t_1097, Nat.le_of_ble_eq_true rfl, rfl⟩
theorem rL_law_227 (L : Nat) (xs : Nat → Int32) : dJ (mL_law L xs) 227 (.if_icmp .eq) 230 572 := ⟨345, (show decode cL_law 227 = .ok (.if_icmp .eq 345, 3) by decide +kernel), rfl, rfl⟩
theorem rL_law_230 (L : Nat) (xs : Nat → Int32) : dKI (mL_law L xs) 230 0 231 := Or.inl ⟨0, (show decode cL_law 230 = .ok (.iconst 0, 1) by decide +kernel), rfl, rfl⟩
theorem rL_law_231 (L : Nat) (xs : Nat → Int32) : dO (mL_law L xs) 231 .ireturn 232 := ⟨(show decode cL_law 231 = .ok (.ireturn, 1) by decide +kernel), rfl⟩
theorem rL_law_232 (L : Nat) (xs : Nat → Int32) : dAL (mL_law L xs) 232 1 233 := Or.inl ⟨1, (show decode cL_law 232 = .ok (.aload_n 1, 1) by decide +kernel), rfl, rfl⟩
theorem rL_law_233 (L : Nat) (xs : Nat → Int32) : dAL (mL_law L xs) 233 0 234 := Or.inl ⟨0, (show decode cL_law 233 = .ok (.aload_n 0, 1) by decide +kernel), rfl, rfl⟩
theorem rL_law_234 (L : Nat) (xs : Nat → Int32) : dIL (mL_law L xs) 234 3 235 := Or.inl ⟨3, (show decode cL_law 234 = .ok (.iload_n 3, 1) by decide +kernel), rfl, rfl⟩
theorem rL_law_235 (L : Nat) (xs : Nat → Int32) : dKI (mL_law L xs) 235 1 236 := Or.inl ⟨1, (show decode cL_law 235 = .ok (.iconst 1, 1) by decide +kernel), rfl, rfl⟩
theorem rL_law_236 (L : Nat) (xs : Nat → Int32) : dO (mL_law L xs) 236 .iadd 237 := ⟨(show decode cL_law 236 = .ok (.iadd, 1) by decide +kernel), rfl⟩
theorem rL_law_237 (L : Nat) (xs : Nat → Int32) : dO (mL_law L xs) 237 .iaload 238 := ⟨(show decode cL_law 237 = .ok (.iaload, 1) by decide +kernel), rfl⟩
theorem rL_law_238 (L : Nat) (xs : Nat → Int32) : dCV (mL_law L xs) 238 m6_act 241 := ⟨39, (show decode cL_law 238 = .ok (.invokevirtual 39, 3) by decide +kernel), t_594, Nat.le_of_ble_eq_true rfl, rfl⟩
theorem rL_law_241 (L : Nat) (xs : Nat → Int32) : dAL (mL_law L xs) 241 2 242 := Or.inl ⟨2, (show decode cL_law 241 = .ok (.aload_n 2, 1) by decide +kernel), rfl, rfl⟩
theorem rL_law_242 (L : Nat) (xs : Nat → Int32) : dAL (mL_law L xs) 242 0 243 := Or.inl ⟨0, (show decode cL_law 242 = .ok (.aload_n 0, 1) by decide +kernel), rfl, rfl⟩
theorem rL_law_243 (L : Nat) (xs : Nat → Int32) : dIL (mL_law L xs) 243 3 244 := Or.inl ⟨3, (show decode cL_law 243 = .ok (.iload_n 3, 1) by decide +kernel), rfl, rfl⟩
theorem rL_law_244 (L : Nat) (xs : Nat → Int32) : dKI (mL_law L xs) 244 1 245 := Or.inl ⟨1, (show decode cL_law 244 = .ok (.iconst 1, 1) by decide +kernel), rfl, rfl⟩
theorem rL_law_245 (L : Nat) (xs : Nat → Int32) : dO (mL_law L xs) 245 .iadd 246 := ⟨(show decode cL_law 245 = .ok (.iadd, 1) by decide +kernel), rfl⟩
theorem rL_law_246 (L : Nat) (xs : Nat → Int32) : dO (mL_law L xs) 246 .iaload 247 := ⟨(show decode cL_law 246 = .ok (.iaload, 1) by decide +kernel), rfl⟩
theorem rL_law_247 (L : Nat) (xs : Nat → Int32) : dCV (mL_law L xs) 247 m7_act 250 := ⟨42, (show decode cL_law 247 = .ok (.invokevirtual 42, 3) by decide +kernel), t_1101, Nat.le_of_ble_eq_true rfl, rfl⟩
theorem rL_law_250 (L : Nat) (xs : Nat → Int32) : dJ (mL_law L xs) 250 (.if_icmp .eq) 253 572 := ⟨322, (show decode cL_law 250 = .ok (.if_icmp .eq 322, 3) by decide +kernel), rfl, rfl⟩
theorem rL_law_253 (L : Nat) (xs : Nat → Int32) : dKI (mL_law L xs) 253 0 254 := Or.inl ⟨0, (show decode cL_law 253 = .ok (.iconst 0, 1) by decide +kernel), rfl, rfl⟩
theorem rL_law_254 (L : Nat) (xs : Nat → Int32) : dO (mL_law L xs) 254 .ireturn 255 := ⟨(show decode cL_law 254 = .ok (.ireturn, 1) by decide +kernel), rfl⟩
theorem rL_law_255 (L : Nat) (xs : Nat → Int32) : dAL (mL_law L xs) 255 1 256 := Or.inl ⟨1, (show decode cL_law 255 = .ok (.aload_n 1, 1) by decide +kernel), rfl, rfl⟩
theorem rL_law_256 (L : Nat) (xs : Nat → Int32) : dCV (mL_law L xs) 256 m6_undo 259 := ⟨43, (show decode cL_law 256 = .ok (.invokevirtual 43, 3) by decide +kernel), t_602, Nat.le_of_ble_eq_true rfl, rfl⟩
theorem rL_law_259 (L : Nat) (xs : Nat → Int32) : dAL (mL_law L xs) 259 2 260 := Or.inl ⟨2, (show decode cL_law 259 = .ok (.aload_n 2, 1) by decide +kernel), rfl, rfl⟩
theorem rL_law_260 (L : Nat) (xs : Nat → Int32) : dCV (mL_law L xs) 260 m7_undo 263 := ⟨46, (show decode cL_law 260 = .ok (.invokevirtual 46, 3) by decide +kernel), t_1109, Nat.le_of_ble_eq_true rfl, rfl⟩
theorem rL_law_263 (L : Nat) (xs : Nat → Int32) : dJ (mL_law L xs) 263 (.if_icmp .eq) 266 572 := ⟨309, (show decode cL_law 263 = .ok (.if_icmp .eq 309, 3) by decide +kernel), rfl, rfl⟩
theorem rL_law_266 (L : Nat) (xs : Nat → Int32) : dKI (mL_law L xs) 266 0 267 := Or.inl ⟨0, (show decode cL_law 266 = .ok (.iconst 0, 1) by decide +kernel), rfl, rfl⟩
theorem rL_law_267 (L : Nat) (xs : Nat → Int32) : dO (mL_law L xs) 267 .ireturn 268 := ⟨(show decode cL_law 267 = .ok (.ireturn, 1) by decide +kernel), rfl⟩
theorem rL_law_268 (L : Nat) (xs : Nat → Int32) : dAL (mL_law L xs) 268 1 269 := Or.inl ⟨1, (show decode cL_law 268 = .ok (.aload_n 1, 1) by decide +kernel), rfl, rfl⟩
theorem rL_law_269 (L : Nat) (xs : Nat → Int32) : dAL (mL_law L xs) 269 0 270 := Or.inl ⟨0, (show decode cL_law 269 = .ok (.aload_n 0, 1) by decide +kernel), rfl, rfl⟩
theorem rL_law_270 (L : Nat) (xs : Nat → Int32) : dIL (mL_law L xs) 270 3 271 := Or.inl ⟨3, (show decode cL_law 270 = .ok (.iload_n 3, 1) by decide +kernel), rfl, rfl⟩
theorem rL_law_271 (L : Nat) (xs : Nat → Int32) : dKI (mL_law L xs) 271 1 272 := Or.inl ⟨1, (show decode cL_law 271 = .ok (.iconst 1, 1) by decide +kernel), rfl, rfl⟩
theorem rL_law_272 (L : Nat) (xs : Nat → Int32) : dO (mL_law L xs) 272 .iadd 273 := ⟨(show decode cL_law 272 = .ok (.iadd, 1) by decide +kernel), rfl⟩
theorem rL_law_273 (L : Nat) (xs : Nat → Int32) : dO (mL_law L xs) 273 .iaload 274 := ⟨(show decode cL_law 273 = .ok (.iaload, 1) by decide +kernel), rfl⟩
theorem rL_law_274 (L : Nat) (xs : Nat → Int32) : dCV (mL_law L xs) 274 m6_about 277 := ⟨47, (show decode cL_law 274 = .ok (.invokevirtual 47, 3) by decide +kernel), t_610, Nat.le_of_ble_eq_true rfl, rfl⟩
theorem rL_law_277 (L : Nat) (xs : Nat → Int32) : dAL (mL_law L xs) 277 2 278 := Or.inl ⟨2, (show decode cL_law 277 = .ok (.aload_n 2, 1) by decide +kernel), rfl, rfl⟩
theorem rL_law_278 (L : Nat) (xs : Nat → Int32) : dAL (mL_law L xs) 278 0 279 := Or.inl ⟨0, (show decode cL_law 278 = .ok (.aload_n 0, 1) by decide +kernel), rfl, rfl⟩
theorem rL_law_279 (L : Nat) (xs : Nat → Int32) : dIL (mL_law L xs) 279 3 280 := Or.inl ⟨3, (show decode cL_law 279 = .ok (.iload_n 3, 1) by decide +kernel), rfl, rfl⟩
theorem rL_law_280 (L : Nat) (xs : Nat → Int32) : dKI (mL_law L xs) 280 1 281 := Or.inl ⟨1, (show decode cL_law 280 = .ok (.iconst 1, 1) by decide +kernel), rfl, rfl⟩
theorem rL_law_281 (L : Nat) (xs : Nat → Int32) : dO (mL_law L xs) 281 .iadd 282 := ⟨(show decode cL_law 281 = .ok (.iadd, 1) by decide +kernel), rfl⟩
theorem rL_law_282 (L : Nat) (xs : Nat → Int32) : dO (mL_law L xs) 282 .iaload 283 := ⟨(show decode cL_law 282 = .ok (.iaload, 1) by decide +kernel), rfl⟩
theorem rL_law_283 (L : Nat) (xs : Nat → Int32) : dCV (mL_law L xs) 283 m7_about 286 := ⟨50, (show decode cL_law 283 = .ok (.invokevirtual 50, 3) by decide +kernel), t_1113, Nat.le_of_ble_eq_true rfl, rfl⟩
theorem rL_law_286 (L : Nat) (xs : Nat → Int32) : dJ (mL_law L xs) 286 (.if_icmp .eq) 289 572 := ⟨286, (show decode cL_law 286 = .ok (.if_icmp .eq 286, 3) by decide +kernel), rfl, rfl⟩
theorem rL_law_289 (L : Nat) (xs : Nat → Int32) : dKI (mL_law L xs) 289 0 290 := Or.inl ⟨0, (show decode cL_law 289 = .ok (.iconst 0, 1) by decide +kernel), rfl, rfl⟩
theorem rL_law_290 (L : Nat) (xs : Nat → Int32) : dO (mL_law L xs) 290 .ireturn 291 := ⟨(show decode cL_law 290 = .ok (.ireturn, 1) by decide +kernel), rfl⟩
theorem rL_law_291 (L : Nat) (xs : Nat → Int32) : dAL (mL_law L xs) 291 1 292 := Or.inl ⟨1, (show decode cL_law 291 = .ok (.aload_n 1, 1) by decide +kernel), rfl, rfl⟩
theorem rL_law_292 (L : Nat) (xs : Nat → Int32) : dAL (mL_law L xs) 292 0 293 := Or.inl ⟨0, (show decode cL_law 292 = .ok (.aload_n 0, 1) by decide +kernel), rfl, rfl⟩
theorem rL_law_293 (L : Nat) (xs : Nat → Int32) : dIL (mL_law L xs) 293 3 294 := Or.inl ⟨3, (show decode cL_law 293 = .ok (.iload_n 3, 1) by decide +kernel), rfl, rfl⟩
theorem rL_law_294 (L : Nat) (xs : Nat → Int32) : dKI (mL_law L xs) 294 1 295 := Or.inl ⟨1, (show decode cL_law 294 = .ok (.iconst 1, 1) by decide +kernel), rfl, rfl⟩
theorem rL_law_295 (L : Nat) (xs : Nat → Int32) : dO (mL_law L xs) 295 .iadd 296 := ⟨(show decode cL_law 295 = .ok (.iadd, 1) by decide +kernel), rfl⟩
theorem rL_law_296 (L : Nat) (xs : Nat → Int32) : dO (mL_law L xs) 296 .iaload 297 := ⟨(show decode cL_law 296 = .ok (.iaload, 1) by decide +kernel), rfl⟩
theorem rL_law_297 (L : Nat) (xs : Nat → Int32) : dAL (mL_law L xs) 297 0 298 := Or.inl ⟨0, (show decode cL_law 297 = .ok (.aload_n 0, 1) by decide +kernel), rfl, rfl⟩
theorem rL_law_298 (L : Nat) (xs : Nat → Int32) : dIL (mL_law L xs) 298 3 299 := Or.inl ⟨3, (show decode cL_law 298 = .ok (.iload_n 3, 1) by decide +kernel), rfl, rfl⟩
theorem rL_law_299 (L : Nat) (xs : Nat → Int32) : dKI (mL_law L xs) 299 2 300 := Or.inl ⟨2, (show decode cL_law 299 = .ok (.iconst 2, 1) by decide +kernel), rfl, rfl⟩
theorem rL_law_300 (L : Nat) (xs : Nat → Int32) : dO (mL_law L xs) 300 .iadd 301 := ⟨(show decode cL_law 300 = .ok (.iadd, 1) by decide +kernel), rfl⟩
theorem rL_law_301 (L : Nat) (xs : Nat → Int32) : dO (mL_law L xs) 301 .iaload 302 := ⟨(show decode cL_law 301 = .ok (.iaload, 1) by decide +kernel), rfl⟩
theorem rL_law_302 (L : Nat) (xs : Nat → Int32) : dCV (mL_law L xs) 302 m6_one 305 := ⟨51, (show decode cL_law 302 = .ok (.invokevirtual 51, 3) by decide +kernel), t_619, Nat.le_of_ble_eq_true rfl, rfl⟩
theorem rL_law_305 (L : Nat) (xs : Nat → Int32) : dAL (mL_law L xs) 305 2 306 := Or.inl ⟨2, (show decode cL_law 305 = .ok (.aload_n 2, 1) by decide +kernel), rfl, rfl⟩
theorem rL_law_306 (L : Nat) (xs : Nat → Int32) : dAL (mL_law L xs) 306 0 307 := Or.inl ⟨0, (show decode cL_law 306 = .ok (.aload_n 0, 1) by decide +kernel), rfl, rfl⟩
theorem rL_law_307 (L : Nat) (xs : Nat → Int32) : dIL (mL_law L xs) 307 3 308 := Or.inl ⟨3, (show decode cL_law 307 = .ok (.iload_n 3, 1) by decide +kernel), rfl, rfl⟩
theorem rL_law_308 (L : Nat) (xs : Nat → Int32) : dKI (mL_law L xs) 308 1 309 := Or.inl ⟨1, (show decode cL_law 308 = .ok (.iconst 1, 1) by decide +kernel), rfl, rfl⟩
theorem rL_law_309 (L : Nat) (xs : Nat → Int32) : dO (mL_law L xs) 309 .iadd 310 := ⟨(show decode cL_law 309 = .ok (.iadd, 1) by decide +kernel), rfl⟩
theorem rL_law_310 (L : Nat) (xs : Nat → Int32) : dO (mL_law L xs) 310 .iaload 311 := ⟨(show decode cL_law 310 = .ok (.iaload, 1) by decide +kernel), rfl⟩
theorem rL_law_311 (L : Nat) (xs : Nat → Int32) : dAL (mL_law L xs) 311 0 312 := Or.inl ⟨0, (show decode cL_law 311 = .ok (.aload_n 0, 1) by decide +kernel), rfl, rfl⟩
theorem rL_law_312 (L : Nat) (xs : Nat → Int32) : dIL (mL_law L xs) 312 3 313 := Or.inl ⟨3, (show decode cL_law 312 = .ok (.iload_n 3, 1) by decide +kernel), rfl, rfl⟩
theorem rL_law_313 (L : Nat) (xs : Nat → Int32) : dKI (mL_law L xs) 313 2 314 := Or.inl ⟨2, (show decode cL_law 313 = .ok (.iconst 2, 1) by decide +kernel), rfl, rfl⟩
theorem rL_law_314 (L : Nat) (xs : Nat → Int32) : dO (mL_law L xs) 314 .iadd 315 := ⟨(show decode cL_law 314 = .ok (.iadd, 1) by decide +kernel), rfl⟩
theorem rL_law_315 (L : Nat) (xs : Nat → Int32) : dO (mL_law L xs) 315 .iaload 316 := ⟨(show decode cL_law 315 = .ok (.iaload, 1) by decide +kernel), rfl⟩
theorem rL_law_316 (L : Nat) (xs : Nat → Int32) : dCV (mL_law L xs) 316 m7_one 319 := ⟨55, (show decode cL_law 316 = .ok (.invokevirtual 55, 3) by decide +kernel), t_1125, Nat.le_of_ble_eq_true rfl, rfl⟩
theorem rL_law_319 (L : Nat) (xs : Nat → Int32) : dJ (mL_law L xs) 319 (.if_icmp .eq) 322 572 := ⟨253, (show decode cL_law 319 = .ok (.if_icmp .eq 253, 3) by decide +kernel), rfl, rfl⟩
theorem rL_law_322 (L : Nat) (xs : Nat → Int32) : dKI (mL_law L xs) 322 0 323 := Or.inl ⟨0, (show decode cL_law 322 = .ok (.iconst 0, 1) by decide +kernel), rfl, rfl⟩
theorem rL_law_323 (L : Nat) (xs : Nat → Int32) : dO (mL_law L xs) 323 .ireturn 324 := ⟨(show decode cL_law 323 = .ok (.ireturn, 1) by decide +kernel), rfl⟩
theorem rL_law_324 (L : Nat) (xs : Nat → Int32) : dAL (mL_law L xs) 324 1 325 := Or.inl ⟨1, (show decode cL_law 324 = .ok (.aload_n 1, 1) by decide +kernel), rfl, rfl⟩
theorem rL_law_325 (L : Nat) (xs : Nat → Int32) : dAL (mL_law L xs) 325 0 326 := Or.inl ⟨0, (show decode cL_law 325 = .ok (.aload_n 0, 1) by decide +kernel), rfl, rfl⟩
theorem rL_law_326 (L : Nat) (xs : Nat → Int32) : dIL (mL_law L xs) 326 3 327 := Or.inl ⟨3, (show decode cL_law 326 = .ok (.iload_n 3, 1) by decide +kernel), rfl, rfl⟩
theorem rL_law_327 (L : Nat) (xs : Nat → Int32) : dKI (mL_law L xs) 327 1 328 := Or.inl ⟨1, (show decode cL_law 327 = .ok (.iconst 1, 1) by decide +kernel), rfl, rfl⟩
theorem rL_law_328 (L : Nat) (xs : Nat → Int32) : dO (mL_law L xs) 328 .iadd 329 := ⟨(show decode cL_law 328 = .ok (.iadd, 1) by decide +kernel), rfl⟩
theorem rL_law_329 (L : Nat) (xs : Nat → Int32) : dO (mL_law L xs) 329 .iaload 330 := ⟨(show decode cL_law 329 = .ok (.iaload, 1) by decide +kernel), rfl⟩
theorem rL_law_330 (L : Nat) (xs : Nat → Int32) : dAL (mL_law L xs) 330 0 331 := Or.inl ⟨0, (show decode cL_law 330 = .ok (.aload_n 0, 1) by decide +kernel), rfl, rfl⟩
theorem rL_law_331 (L : Nat) (xs : Nat → Int32) : dIL (mL_law L xs) 331 3 332 := Or.inl ⟨3, (show decode cL_law 331 = .ok (.iload_n 3, 1) by decide +kernel), rfl, rfl⟩
theorem rL_law_332 (L : Nat) (xs : Nat → Int32) : dKI (mL_law L xs) 332 2 333 := Or.inl ⟨2, (show decode cL_law 332 = .ok (.iconst 2, 1) by decide +kernel), rfl, rfl⟩
theorem rL_law_333 (L : Nat) (xs : Nat → Int32) : dO (mL_law L xs) 333 .iadd 334 := ⟨(show decode cL_law 333 = .ok (.iadd, 1) by decide +kernel), rfl⟩
theorem rL_law_334 (L : Nat) (xs : Nat → Int32) : dO (mL_law L xs) 334 .iaload 335 := ⟨(show decode cL_law 334 = .ok (.iaload, 1) by decide +kernel), rfl⟩
theorem rL_law_335 (L : Nat) (xs : Nat → Int32) : dCV (mL_law L xs) 335 m6_plan 338 := ⟨56, (show decode cL_law 335 = .ok (.invokevirtual 56, 3) by decide +kernel), t_627, Nat.le_of_ble_eq_true rfl, rfl⟩
theorem rL_law_338 (L : Nat) (xs : Nat → Int32) : dAL (mL_law L xs) 338 2 339 := Or.inl ⟨2, (show decode cL_law 338 = .ok (.aload_n 2, 1) by decide +kernel), rfl, rfl⟩
theorem rL_law_339 (L : Nat) (xs : Nat → Int32) : dAL (mL_law L xs) 339 0 340 := Or.inl ⟨0, (show decode cL_law 339 = .ok (.aload_n 0, 1) by decide +kernel), rfl, rfl⟩
theorem rL_law_340 (L : Nat) (xs : Nat → Int32) : dIL (mL_law L xs) 340 3 341 := Or.inl ⟨3, (show decode cL_law 340 = .ok (.iload_n 3, 1) by decide +kernel), rfl, rfl⟩
theorem rL_law_341 (L : Nat) (xs : Nat → Int32) : dKI (mL_law L xs) 341 1 342 := Or.inl ⟨1, (show decode cL_law 341 = .ok (.iconst 1, 1) by decide +kernel), rfl, rfl⟩
theorem rL_law_342 (L : Nat) (xs : Nat → Int32) : dO (mL_law L xs) 342 .iadd 343 := ⟨(show decode cL_law 342 = .ok (.iadd, 1) by decide +kernel), rfl⟩
theorem rL_law_343 (L : Nat) (xs : Nat → Int32) : dO (mL_law L xs) 343 .iaload 344 := ⟨(show decode cL_law 343 = .ok (.iaload, 1) by decide +kernel), rfl⟩
theorem rL_law_344 (L : Nat) (xs : Nat → Int32) : dAL (mL_law L xs) 344 0 345 := Or.inl ⟨0, (show decode cL_law 344 = .ok (.aload_n 0, 1) by decide +kernel), rfl, rfl⟩
theorem rL_law_345 (L : Nat) (xs : Nat → Int32) : dIL (mL_law L xs) 345 3 346 := Or.inl ⟨3, (show decode cL_law 345 = .ok (.iload_n 3, 1) by decide +kernel), rfl, rfl⟩
theorem rL_law_346 (L : Nat) (xs : Nat → Int32) : dKI (mL_law L xs) 346 2 347 := Or.inl ⟨2, (show decode cL_law 346 = .ok (.iconst 2, 1) by decide +kernel), rfl, rfl⟩
theorem rL_law_347 (L : Nat) (xs : Nat → Int32) : dO (mL_law L xs) 347 .iadd 348 := ⟨(show decode cL_law 347 = .ok (.iadd, 1) by decide +kernel), rfl⟩
theorem rL_law_348 (L : Nat) (xs : Nat → Int32) : dO (mL_law L xs) 348 .iaload 349 := ⟨(show decode cL_law 348 = .ok (.iaload, 1) by decide +kernel), rfl⟩
theorem rL_law_349 (L : Nat) (xs : Nat → Int32) : dCV (mL_law L xs) 349 m7_plan 352 := ⟨59, (show decode cL_law 349 = .ok (.invokevirtual 59, 3) by decide +kernel), t_1145, Nat.le_of_ble_eq_true rfl, rfl⟩
theorem rL_law_352 (L : Nat) (xs : Nat → Int32) : dJ (mL_law L xs) 352 (.if_icmp .eq) 355 572 := ⟨220, (show decode cL_law 352 = .ok (.if_icmp .eq 220, 3) by decide +kernel), rfl, rfl⟩
theorem rL_law_355 (L : Nat) (xs : Nat → Int32) : dKI (mL_law L xs) 355 0 356 := Or.inl ⟨0, (show decode cL_law 355 = .ok (.iconst 0, 1) by decide +kernel), rfl, rfl⟩
theorem rL_law_356 (L : Nat) (xs : Nat → Int32) : dO (mL_law L xs) 356 .ireturn 357 := ⟨(show decode cL_law 356 = .ok (.ireturn, 1) by decide +kernel), rfl⟩
theorem rL_law_357 (L : Nat) (xs : Nat → Int32) : dAL (mL_law L xs) 357 1 358 := Or.inl ⟨1, (show decode cL_law 357 = .ok (.aload_n 1, 1) by decide +kernel), rfl, rfl⟩
theorem rL_law_358 (L : Nat) (xs : Nat → Int32) : dAL (mL_law L xs) 358 0 359 := Or.inl ⟨0, (show decode cL_law 358 = .ok (.aload_n 0, 1) by decide +kernel), rfl, rfl⟩
theorem rL_law_359 (L : Nat) (xs : Nat → Int32) : dIL (mL_law L xs) 359 3 360 := Or.inl ⟨3, (show decode cL_law 359 = .ok (.iload_n 3, 1) by decide +kernel), rfl, rfl⟩
theorem rL_law_360 (L : Nat) (xs : Nat → Int32) : dKI (mL_law L xs) 360 1 361 := Or.inl ⟨1, (show decode cL_law 360 = .ok (.iconst 1, 1) by decide +kernel), rfl, rfl⟩
theorem rL_law_361 (L : Nat) (xs : Nat → Int32) : dO (mL_law L xs) 361 .iadd 362 := ⟨(show decode cL_law 361 = .ok (.iadd, 1) by decide +kernel), rfl⟩
theorem rL_law_362 (L : Nat) (xs : Nat → Int32) : dO (mL_law L xs) 362 .iaload 363 := ⟨(show decode cL_law 362 = .ok (.iaload, 1) by decide +kernel), rfl⟩
theorem rL_law_363 (L : Nat) (xs : Nat → Int32) : dAL (mL_law L xs) 363 0 364 := Or.inl ⟨0, (show decode cL_law 363 = .ok (.aload_n 0, 1) by decide +kernel), rfl, rfl⟩
theorem rL_law_364 (L : Nat) (xs : Nat → Int32) : dIL (mL_law L xs) 364 3 365 := Or.inl ⟨3, (show decode cL_law 364 = .ok (.iload_n 3, 1) by decide +kernel), rfl, rfl⟩
theorem rL_law_365 (L : Nat) (xs : Nat → Int32) : dKI (mL_law L xs) 365 2 366 := Or.inl ⟨2, (show decode cL_law 365 = .ok (.iconst 2, 1) by decide +kernel), rfl, rfl⟩
theorem rL_law_366 (L : Nat) (xs : Nat → Int32) : dO (mL_law L xs) 366 .iadd 367 := ⟨(show decode cL_law 366 = .ok (.iadd, 1) by decide +kernel), rfl⟩
theorem rL_law_367 (L : Nat) (xs : Nat → Int32) : dO (mL_law L xs) 367 .iaload 368 := ⟨(show decode cL_law 367 = .ok (.iaload, 1) by decide +kernel), rfl⟩
theorem rL_law_368 (L : Nat) (xs : Nat → Int32) : dAL (mL_law L xs) 368 0 369 := Or.inl ⟨0, (show decode cL_law 368 = .ok (.aload_n 0, 1) by decide +kernel), rfl, rfl⟩
theorem rL_law_369 (L : Nat) (xs : Nat → Int32) : dIL (mL_law L xs) 369 3 370 := Or.inl ⟨3, (show decode cL_law 369 = .ok (.iload_n 3, 1) by decide +kernel), rfl, rfl⟩
theorem rL_law_370 (L : Nat) (xs : Nat → Int32) : dKI (mL_law L xs) 370 3 371 := Or.inl ⟨3, (show decode cL_law 370 = .ok (.iconst 3, 1) by decide +kernel), rfl, rfl⟩
theorem rL_law_371 (L : Nat) (xs : Nat → Int32) : dO (mL_law L xs) 371 .iadd 372 := ⟨(show decode cL_law 371 = .ok (.iadd, 1) by decide +kernel), rfl⟩
theorem rL_law_372 (L : Nat) (xs : Nat → Int32) : dO (mL_law L xs) 372 .iaload 373 := ⟨(show decode cL_law 372 = .ok (.iaload, 1) by decide +kernel), rfl⟩
theorem rL_law_373 (L : Nat) (xs : Nat → Int32) : dCV (mL_law L xs) 373 m6_foil 376 := ⟨60, (show decode cL_law 373 = .ok (.invokevirtual 60, 3) by decide +kernel), t_635, Nat.le_of_ble_eq_true rfl, rfl⟩
theorem rL_law_376 (L : Nat) (xs : Nat → Int32) : dAL (mL_law L xs) 376 2 377 := Or.inl ⟨2, (show decode cL_law 376 = .ok (.aload_n 2, 1) by decide +kernel), rfl, rfl⟩
theorem rL_law_377 (L : Nat) (xs : Nat → Int32) : dAL (mL_law L xs) 377 0 378 := Or.inl ⟨0, (show decode cL_law 377 = .ok (.aload_n 0, 1) by decide +kernel), rfl, rfl⟩
theorem rL_law_378 (L : Nat) (xs : Nat → Int32) : dIL (mL_law L xs) 378 3 379 := Or.inl ⟨3, (show decode cL_law 378 = .ok (.iload_n 3, 1) by decide +kernel), rfl, rfl⟩
theorem rL_law_379 (L : Nat) (xs : Nat → Int32) : dKI (mL_law L xs) 379 1 380 := Or.inl ⟨1, (show decode cL_law 379 = .ok (.iconst 1, 1) by decide +kernel), rfl, rfl⟩
theorem rL_law_380 (L : Nat) (xs : Nat → Int32) : dO (mL_law L xs) 380 .iadd 381 := ⟨(show decode cL_law 380 = .ok (.iadd, 1) by decide +kernel), rfl⟩
theorem rL_law_381 (L : Nat) (xs : Nat → Int32) : dO (mL_law L xs) 381 .iaload 382 := ⟨(show decode cL_law 381 = .ok (.iaload, 1) by decide +kernel), rfl⟩
theorem rL_law_382 (L : Nat) (xs : Nat → Int32) : dAL (mL_law L xs) 382 0 383 := Or.inl ⟨0, (show decode cL_law 382 = .ok (.aload_n 0, 1) by decide +kernel), rfl, rfl⟩
theorem rL_law_383 (L : Nat) (xs : Nat → Int32) : dIL (mL_law L xs) 383 3 384 := Or.inl ⟨3, (show decode cL_law 383 = .ok (.iload_n 3, 1) by decide +kernel), rfl, rfl⟩
theorem rL_law_384 (L : Nat) (xs : Nat → Int32) : dKI (mL_law L xs) 384 2 385 := Or.inl ⟨2, (show decode cL_law 384 = .ok (.iconst 2, 1) by decide +kernel), rfl, rfl⟩
theorem rL_law_385 (L : Nat) (xs : Nat → Int32) : dO (mL_law L xs) 385 .iadd 386 := ⟨(show decode cL_law 385 = .ok (.iadd, 1) by decide +kernel), rfl⟩
theorem rL_law_386 (L : Nat) (xs : Nat → Int32) : dO (mL_law L xs) 386 .iaload 387 := ⟨(show decode cL_law 386 = .ok (.iaload, 1) by decide +kernel), rfl⟩
theorem rL_law_387 (L : Nat) (xs : Nat → Int32) : dAL (mL_law L xs) 387 0 388 := Or.inl ⟨0, (show decode cL_law 387 = .ok (.aload_n 0, 1) by decide +kernel), rfl, rfl⟩
theorem rL_law_388 (L : Nat) (xs : Nat → Int32) : dIL (mL_law L xs) 388 3 389 := Or.inl ⟨3, (show decode cL_law 388 = .ok (.iload_n 3, 1) by decide +kernel), rfl, rfl⟩
theorem rL_law_389 (L : Nat) (xs : Nat → Int32) : dKI (mL_law L xs) 389 3 390 := Or.inl ⟨3, (show decode cL_law 389 = .ok (.iconst 3, 1) by decide +kernel), rfl, rfl⟩
theorem rL_law_390 (L : Nat) (xs : Nat → Int32) : dO (mL_law L xs) 390 .iadd 391 := ⟨(show decode cL_law 390 = .ok (.iadd, 1) by decide +kernel), rfl⟩
theorem rL_law_391 (L : Nat) (xs : Nat → Int32) : dO (mL_law L xs) 391 .iaload 392 := ⟨(show decode cL_law 391 = .ok (.iaload, 1) by decide +kernel), rfl⟩
theorem rL_law_392 (L : Nat) (xs : Nat → Int32) : dCV (mL_law L xs) 392 m7_foil 395 := ⟨64, (show decode cL_law 392 = .ok (.invokevirtual 64, 3) by decide +kernel), t_1149, Nat.le_of_ble_eq_true rfl, rfl⟩
theorem rL_law_395 (L : Nat) (xs : Nat → Int32) : dJ (mL_law L xs) 395 (.if_icmp .eq) 398 572 := ⟨177, (show decode cL_law 395 = .ok (.if_icmp .eq 177, 3) by decide +kernel), rfl, rfl⟩
theorem rL_law_398 (L : Nat) (xs : Nat → Int32) : dKI (mL_law L xs) 398 0 399 := Or.inl ⟨0, (show decode cL_law 398 = .ok (.iconst 0, 1) by decide +kernel), rfl, rfl⟩
theorem rL_law_399 (L : Nat) (xs : Nat → Int32) : dO (mL_law L xs) 399 .ireturn 400 := ⟨(show decode cL_law 399 = .ok (.ireturn, 1) by decide +kernel), rfl⟩
theorem rL_law_400 (L : Nat) (xs : Nat → Int32) : dAL (mL_law L xs) 400 1 401 := Or.inl ⟨1, (show decode cL_law 400 = .ok (.aload_n 1, 1) by decide +kernel), rfl, rfl⟩
theorem rL_law_401 (L : Nat) (xs : Nat → Int32) : dAL (mL_law L xs) 401 0 402 := Or.inl ⟨0, (show decode cL_law 401 = .ok (.aload_n 0, 1) by decide +kernel), rfl, rfl⟩
theorem rL_law_402 (L : Nat) (xs : Nat → Int32) : dIL (mL_law L xs) 402 3 403 := Or.inl ⟨3, (show decode cL_law 402 = .ok (.iload_n 3, 1) by decide +kernel), rfl, rfl⟩
theorem rL_law_403 (L : Nat) (xs : Nat → Int32) : dKI (mL_law L xs) 403 1 404 := Or.inl ⟨1, (show decode cL_law 403 = .ok (.iconst 1, 1) by decide +kernel), rfl, rfl⟩
theorem rL_law_404 (L : Nat) (xs : Nat → Int32) : dO (mL_law L xs) 404 .iadd 405 := ⟨(show decode cL_law 404 = .ok (.iadd, 1) by decide +kernel), rfl⟩
theorem rL_law_405 (L : Nat) (xs : Nat → Int32) : dO (mL_law L xs) 405 .iaload 406 := ⟨(show decode cL_law 405 = .ok (.iaload, 1) by decide +kernel), rfl⟩
theorem rL_law_406 (L : Nat) (xs : Nat → Int32) : dAL (mL_law L xs) 406 0 407 := Or.inl ⟨0, (show decode cL_law 406 = .ok (.aload_n 0, 1) by decide +kernel), rfl, rfl⟩
theorem rL_law_407 (L : Nat) (xs : Nat → Int32) : dIL (mL_law L xs) 407 3 408 := Or.inl ⟨3, (show decode cL_law 407 = .ok (.iload_n 3, 1) by decide +kernel), rfl, rfl⟩
theorem rL_law_408 (L : Nat) (xs : Nat → Int32) : dKI (mL_law L xs) 408 2 409 := Or.inl ⟨2, (show decode cL_law 408 = .ok (.iconst 2, 1) by decide +kernel), rfl, rfl⟩
theorem rL_law_409 (L : Nat) (xs : Nat → Int32) : dO (mL_law L xs) 409 .iadd 410 := ⟨(show decode cL_law 409 = .ok (.iadd, 1) by decide +kernel), rfl⟩
theorem rL_law_410 (L : Nat) (xs : Nat → Int32) : dO (mL_law L xs) 410 .iaload 411 := ⟨(show decode cL_law 410 = .ok (.iaload, 1) by decide +kernel), rfl⟩
theorem rL_law_411 (L : Nat) (xs : Nat → Int32) : dCV (mL_law L xs) 411 m6_deed 414 := ⟨65, (show decode cL_law 411 = .ok (.invokevirtual 65, 3) by decide +kernel), t_639, Nat.le_of_ble_eq_true rfl, rfl⟩
theorem rL_law_414 (L : Nat) (xs : Nat → Int32) : dAL (mL_law L xs) 414 2 415 := Or.inl ⟨2, (show decode cL_law 414 = .ok (.aload_n 2, 1) by decide +kernel), rfl, rfl⟩
theorem rL_law_415 (L : Nat) (xs : Nat → Int32) : dAL (mL_law L xs) 415 0 416 := Or.inl ⟨0, (show decode cL_law 415 = .ok (.aload_n 0, 1) by decide +kernel), rfl, rfl⟩
theorem rL_law_416 (L : Nat) (xs : Nat → Int32) : dIL (mL_law L xs) 416 3 417 := Or.inl ⟨3, (show decode cL_law 416 = .ok (.iload_n 3, 1) by decide +kernel), rfl, rfl⟩
theorem rL_law_417 (L : Nat) (xs : Nat → Int32) : dKI (mL_law L xs) 417 1 418 := Or.inl ⟨1, (show decode cL_law 417 = .ok (.iconst 1, 1) by decide +kernel), rfl, rfl⟩
theorem rL_law_418 (L : Nat) (xs : Nat → Int32) : dO (mL_law L xs) 418 .iadd 419 := ⟨(show decode cL_law 418 = .ok (.iadd, 1) by decide +kernel), rfl⟩
theorem rL_law_419 (L : Nat) (xs : Nat → Int32) : dO (mL_law L xs) 419 .iaload 420 := ⟨(show decode cL_law 419 = .ok (.iaload, 1) by decide +kernel), rfl⟩
theorem rL_law_420 (L : Nat) (xs : Nat → Int32) : dAL (mL_law L xs) 420 0 421 := Or.inl ⟨0, (show decode cL_law 420 = .ok (.aload_n 0, 1) by decide +kernel), rfl, rfl⟩
theorem rL_law_421 (L : Nat) (xs : Nat → Int32) : dIL (mL_law L xs) 421 3 422 := Or.inl ⟨3, (show decode cL_law 421 = .ok (.iload_n 3, 1) by decide +kernel), rfl, rfl⟩
theorem rL_law_422 (L : Nat) (xs : Nat → Int32) : dKI (mL_law L xs) 422 2 423 := Or.inl ⟨2, (show decode cL_law 422 = .ok (.iconst 2, 1) by decide +kernel), rfl, rfl⟩
theorem rL_law_423 (L : Nat) (xs : Nat → Int32) : dO (mL_law L xs) 423 .iadd 424 := ⟨(show decode cL_law 423 = .ok (.iadd, 1) by decide +kernel), rfl⟩
theorem rL_law_424 (L : Nat) (xs : Nat → Int32) : dO (mL_law L xs) 424 .iaload 425 := ⟨(show decode cL_law 424 = .ok (.iaload, 1) by decide +kernel), rfl⟩
theorem rL_law_425 (L : Nat) (xs : Nat → Int32) : dCV (mL_law L xs) 425 m7_deed 428 := ⟨68, (show decode cL_law 425 = .ok (.invokevirtual 68, 3) by decide +kernel), t_1157, Nat.le_of_ble_eq_true rfl, rfl⟩
theorem rL_law_428 (L : Nat) (xs : Nat → Int32) : dJ (mL_law L xs) 428 (.if_icmp .eq) 431 572 := ⟨144, (show decode cL_law 428 = .ok (.if_icmp .eq 144, 3) by decide +kernel), rfl, rfl⟩
theorem rL_law_431 (L : Nat) (xs : Nat → Int32) : dKI (mL_law L xs) 431 0 432 := Or.inl ⟨0, (show decode cL_law 431 = .ok (.iconst 0, 1) by decide +kernel), rfl, rfl⟩
theorem rL_law_432 (L : Nat) (xs : Nat → Int32) : dO (mL_law L xs) 432 .ireturn 433 := ⟨(show decode cL_law 432 = .ok (.ireturn, 1) by decide +kernel), rfl⟩
theorem rL_law_433 (L : Nat) (xs : Nat → Int32) : dAL (mL_law L xs) 433 1 434 := Or.inl ⟨1, (show decode cL_law 433 = .ok (.aload_n 1, 1) by decide +kernel), rfl, rfl⟩
theorem rL_law_434 (L : Nat) (xs : Nat → Int32) : dAL (mL_law L xs) 434 0 435 := Or.inl ⟨0, (show decode cL_law 434 = .ok (.aload_n 0, 1) by decide +kernel), rfl, rfl⟩
theorem rL_law_435 (L : Nat) (xs : Nat → Int32) : dIL (mL_law L xs) 435 3 436 := Or.inl ⟨3, (show decode cL_law 435 = .ok (.iload_n 3, 1) by decide +kernel), rfl, rfl⟩
theorem rL_law_436 (L : Nat) (xs : Nat → Int32) : dKI (mL_law L xs) 436 1 437 := Or.inl ⟨1, (show decode cL_law 436 = .ok (.iconst 1, 1) by decide +kernel), rfl, rfl⟩
theorem rL_law_437 (L : Nat) (xs : Nat → Int32) : dO (mL_law L xs) 437 .iadd 438 := ⟨(show decode cL_law 437 = .ok (.iadd, 1) by decide +kernel), rfl⟩
theorem rL_law_438 (L : Nat) (xs : Nat → Int32) : dO (mL_law L xs) 438 .iaload 439 := ⟨(show decode cL_law 438 = .ok (.iaload, 1) by decide +kernel), rfl⟩
theorem rL_law_439 (L : Nat) (xs : Nat → Int32) : dAL (mL_law L xs) 439 0 440 := Or.inl ⟨0, (show decode cL_law 439 = .ok (.aload_n 0, 1) by decide +kernel), rfl, rfl⟩
theorem rL_law_440 (L : Nat) (xs : Nat → Int32) : dIL (mL_law L xs) 440 3 441 := Or.inl ⟨3, (show decode cL_law 440 = .ok (.iload_n 3, 1) by decide +kernel), rfl, rfl⟩
theorem rL_law_441 (L : Nat) (xs : Nat → Int32) : dKI (mL_law L xs) 441 2 442 := Or.inl ⟨2, (show decode cL_law 441 = .ok (.iconst 2, 1) by decide +kernel), rfl, rfl⟩
theorem rL_law_442 (L : Nat) (xs : Nat → Int32) : dO (mL_law L xs) 442 .iadd 443 := ⟨(show decode cL_law 442 = .ok (.iadd, 1) by decide +kernel), rfl⟩
theorem rL_law_443 (L : Nat) (xs : Nat → Int32) : dO (mL_law L xs) 443 .iaload 444 := ⟨(show decode cL_law 443 = .ok (.iaload, 1) by decide +kernel), rfl⟩
theorem rL_law_444 (L : Nat) (xs : Nat → Int32) : dCV (mL_law L xs) 444 m6_step 447 := ⟨69, (show decode cL_law 444 = .ok (.invokevirtual 69, 3) by decide +kernel), t_643, Nat.le_of_ble_eq_true rfl, rfl⟩
theorem rL_law_447 (L : Nat) (xs : Nat → Int32) : dAL (mL_law L xs) 447 2 448 := Or.inl ⟨2, (show decode cL_law 447 = .ok (.aload_n 2, 1) by decide +kernel), rfl, rfl⟩
theorem rL_law_448 (L : Nat) (xs : Nat → Int32) : dAL (mL_law L xs) 448 0 449 := Or.inl ⟨0, (show decode cL_law 448 = .ok (.aload_n 0, 1) by decide +kernel), rfl, rfl⟩
theorem rL_law_449 (L : Nat) (xs : Nat → Int32) : dIL (mL_law L xs) 449 3 450 := Or.inl ⟨3, (show decode cL_law 449 = .ok (.iload_n 3, 1) by decide +kernel), rfl, rfl⟩
theorem rL_law_450 (L : Nat) (xs : Nat → Int32) : dKI (mL_law L xs) 450 1 451 := Or.inl ⟨1, (show decode cL_law 450 = .ok (.iconst 1, 1) by decide +kernel), rfl, rfl⟩
theorem rL_law_451 (L : Nat) (xs : Nat → Int32) : dO (mL_law L xs) 451 .iadd 452 := ⟨(show decode cL_law 451 = .ok (.iadd, 1) by decide +kernel), rfl⟩
theorem rL_law_452 (L : Nat) (xs : Nat → Int32) : dO (mL_law L xs) 452 .iaload 453 := ⟨(show decode cL_law 452 = .ok (.iaload, 1) by decide +kernel), rfl⟩
theorem rL_law_453 (L : Nat) (xs : Nat → Int32) : dAL (mL_law L xs) 453 0 454 := Or.inl ⟨0, (show decode cL_law 453 = .ok (.aload_n 0, 1) by decide +kernel), rfl, rfl⟩
theorem rL_law_454 (L : Nat) (xs : Nat → Int32) : dIL (mL_law L xs) 454 3 455 := Or.inl ⟨3, (show decode cL_law 454 = .ok (.iload_n 3, 1) by decide +kernel), rfl, rfl⟩
theorem rL_law_455 (L : Nat) (xs : Nat → Int32) : dKI (mL_law L xs) 455 2 456 := Or.inl ⟨2, (show decode cL_law 455 = .ok (.iconst 2, 1) by decide +kernel), rfl, rfl⟩
theorem rL_law_456 (L : Nat) (xs : Nat → Int32) : dO (mL_law L xs) 456 .iadd 457 := ⟨(show decode cL_law 456 = .ok (.iadd, 1) by decide +kernel), rfl⟩
theorem rL_law_457 (L : Nat) (xs : Nat → Int32) : dO (mL_law L xs) 457 .iaload 458 := ⟨(show decode cL_law 457 = .ok (.iaload, 1) by decide +kernel), rfl⟩
theorem rL_law_458 (L : Nat) (xs : Nat → Int32) : dCV (mL_law L xs) 458 m7_step 461 := ⟨72, (show decode cL_law 458 = .ok (.invokevirtual 72, 3) by decide +kernel), t_1165, Nat.le_of_ble_eq_true rfl, rfl⟩
theorem rL_law_461 (L : Nat) (xs : Nat → Int32) : dJ (mL_law L xs) 461 (.if_icmp .eq) 464 572 := ⟨111, (show decode cL_law 461 = .ok (.if_icmp .eq 111, 3) by decide +kernel), rfl, rfl⟩
theorem rL_law_464 (L : Nat) (xs : Nat → Int32) : dKI (mL_law L xs) 464 0 465 := Or.inl ⟨0, (show decode cL_law 464 = .ok (.iconst 0, 1) by decide +kernel), rfl, rfl⟩
theorem rL_law_465 (L : Nat) (xs : Nat → Int32) : dO (mL_law L xs) 465 .ireturn 466 := ⟨(show decode cL_law 465 = .ok (.ireturn, 1) by decide +kernel), rfl⟩
theorem rL_law_466 (L : Nat) (xs : Nat → Int32) : dAL (mL_law L xs) 466 1 467 := Or.inl ⟨1, (show decode cL_law 466 = .ok (.aload_n 1, 1) by decide +kernel), rfl, rfl⟩
theorem rL_law_467 (L : Nat) (xs : Nat → Int32) : dAL (mL_law L xs) 467 0 468 := Or.inl ⟨0, (show decode cL_law 467 = .ok (.aload_n 0, 1) by decide +kernel), rfl, rfl⟩
theorem rL_law_468 (L : Nat) (xs : Nat → Int32) : dIL (mL_law L xs) 468 3 469 := Or.inl ⟨3, (show decode cL_law 468 = .ok (.iload_n 3, 1) by decide +kernel), rfl, rfl⟩
theorem rL_law_469 (L : Nat) (xs : Nat → Int32) : dKI (mL_law L xs) 469 1 470 := Or.inl ⟨1, (show decode cL_law 469 = .ok (.iconst 1, 1) by decide +kernel), rfl, rfl⟩
theorem rL_law_470 (L : Nat) (xs : Nat → Int32) : dO (mL_law L xs) 470 .iadd 471 := ⟨(show decode cL_law 470 = .ok (.iadd, 1) by decide +kernel), rfl⟩
theorem rL_law_471 (L : Nat) (xs : Nat → Int32) : dO (mL_law L xs) 471 .iaload 472 := ⟨(show decode cL_law 471 = .ok (.iaload, 1) by decide +kernel), rfl⟩
theorem rL_law_472 (L : Nat) (xs : Nat → Int32) : dCV (mL_law L xs) 472 m6_story 475 := ⟨73, (show decode cL_law 472 = .ok (.invokevirtual 73, 3) by decide +kernel), t_689, Nat.le_of_ble_eq_true rfl, rfl⟩
theorem rL_law_475 (L : Nat) (xs : Nat → Int32) : dAL (mL_law L xs) 475 2 476 := Or.inl ⟨2, (show decode cL_law 475 = .ok (.aload_n 2, 1) by decide +kernel), rfl, rfl⟩
theorem rL_law_476 (L : Nat) (xs : Nat → Int32) : dAL (mL_law L xs) 476 0 477 := Or.inl ⟨0, (show decode cL_law 476 = .ok (.aload_n 0, 1) by decide +kernel), rfl, rfl⟩
theorem rL_law_477 (L : Nat) (xs : Nat → Int32) : dIL (mL_law L xs) 477 3 478 := Or.inl ⟨3, (show decode cL_law 477 = .ok (.iload_n 3, 1) by decide +kernel), rfl, rfl⟩
theorem rL_law_478 (L : Nat) (xs : Nat → Int32) : dKI (mL_law L xs) 478 1 479 := Or.inl ⟨1, (show decode cL_law 478 = .ok (.iconst 1, 1) by decide +kernel), rfl, rfl⟩
theorem rL_law_479 (L : Nat) (xs : Nat → Int32) : dO (mL_law L xs) 479 .iadd 480 := ⟨(show decode cL_law 479 = .ok (.iadd, 1) by decide +kernel), rfl⟩
theorem rL_law_480 (L : Nat) (xs : Nat → Int32) : dO (mL_law L xs) 480 .iaload 481 := ⟨(show decode cL_law 480 = .ok (.iaload, 1) by decide +kernel), rfl⟩
theorem rL_law_481 (L : Nat) (xs : Nat → Int32) : dCV (mL_law L xs) 481 m7_story 484 := ⟨76, (show decode cL_law 481 = .ok (.invokevirtual 76, 3) by decide +kernel), t_1208, Nat.le_of_ble_eq_true rfl, rfl⟩
theorem rL_law_484 (L : Nat) (xs : Nat → Int32) : dJ (mL_law L xs) 484 (.if_icmp .eq) 487 572 := ⟨88, (show decode cL_law 484 = .ok (.if_icmp .eq 88, 3) by decide +kernel), rfl, rfl⟩
theorem rL_law_487 (L : Nat) (xs : Nat → Int32) : dKI (mL_law L xs) 487 0 488 := Or.inl ⟨0, (show decode cL_law 487 = .ok (.iconst 0, 1) by decide +kernel), rfl, rfl⟩
theorem rL_law_488 (L : Nat) (xs : Nat → Int32) : dO (mL_law L xs) 488 .ireturn 489 := ⟨(show decode cL_law 488 = .ok (.ireturn, 1) by decide +kernel), rfl⟩
theorem rL_law_489 (L : Nat) (xs : Nat → Int32) : dAL (mL_law L xs) 489 1 490 := Or.inl ⟨1, (show decode cL_law 489 = .ok (.aload_n 1, 1) by decide +kernel), rfl, rfl⟩
theorem rL_law_490 (L : Nat) (xs : Nat → Int32) : dAL (mL_law L xs) 490 0 491 := Or.inl ⟨0, (show decode cL_law 490 = .ok (.aload_n 0, 1) by decide +kernel), rfl, rfl⟩
theorem rL_law_491 (L : Nat) (xs : Nat → Int32) : dIL (mL_law L xs) 491 3 492 := Or.inl ⟨3, (show decode cL_law 491 = .ok (.iload_n 3, 1) by decide +kernel), rfl, rfl⟩
theorem rL_law_492 (L : Nat) (xs : Nat → Int32) : dKI (mL_law L xs) 492 1 493 := Or.inl ⟨1, (show decode cL_law 492 = .ok (.iconst 1, 1) by decide +kernel), rfl, rfl⟩
theorem rL_law_493 (L : Nat) (xs : Nat → Int32) : dO (mL_law L xs) 493 .iadd 494 := ⟨(show decode cL_law 493 = .ok (.iadd, 1) by decide +kernel), rfl⟩
theorem rL_law_494 (L : Nat) (xs : Nat → Int32) : dO (mL_law L xs) 494 .iaload 495 := ⟨(show decode cL_law 494 = .ok (.iaload, 1) by decide +kernel), rfl⟩
theorem rL_law_495 (L : Nat) (xs : Nat → Int32) : dCV (mL_law L xs) 495 m6_together 498 := ⟨77, (show decode cL_law 495 = .ok (.invokevirtual 77, 3) by decide +kernel), t_723, Nat.le_of_ble_eq_true rfl, rfl⟩
theorem rL_law_498 (L : Nat) (xs : Nat → Int32) : dAL (mL_law L xs) 498 2 499 := Or.inl ⟨2, (show decode cL_law 498 = .ok (.aload_n 2, 1) by decide +kernel), rfl, rfl⟩
theorem rL_law_499 (L : Nat) (xs : Nat → Int32) : dAL (mL_law L xs) 499 0 500 := Or.inl ⟨0, (show decode cL_law 499 = .ok (.aload_n 0, 1) by decide +kernel), rfl, rfl⟩
theorem rL_law_500 (L : Nat) (xs : Nat → Int32) : dIL (mL_law L xs) 500 3 501 := Or.inl ⟨3, (show decode cL_law 500 = .ok (.iload_n 3, 1) by decide +kernel), rfl, rfl⟩
theorem rL_law_501 (L : Nat) (xs : Nat → Int32) : dKI (mL_law L xs) 501 1 502 := Or.inl ⟨1, (show decode cL_law 501 = .ok (.iconst 1, 1) by decide +kernel), rfl, rfl⟩
theorem rL_law_502 (L : Nat) (xs : Nat → Int32) : dO (mL_law L xs) 502 .iadd 503 := ⟨(show decode cL_law 502 = .ok (.iadd, 1) by decide +kernel), rfl⟩
theorem rL_law_503 (L : Nat) (xs : Nat → Int32) : dO (mL_law L xs) 503 .iaload 504 := ⟨(show decode cL_law 503 = .ok (.iaload, 1) by decide +kernel), rfl⟩
theorem rL_law_504 (L : Nat) (xs : Nat → Int32) : dCV (mL_law L xs) 504 m7_together 507 := ⟨80, (show decode cL_law 504 = .ok (.invokevirtual 80, 3) by decide +kernel), t_1239, Nat.le_of_ble_eq_true rfl, rfl⟩
theorem rL_law_507 (L : Nat) (xs : Nat → Int32) : dJ (mL_law L xs) 507 (.if_icmp .eq) 510 572 := ⟨65, (show decode cL_law 507 = .ok (.if_icmp .eq 65, 3) by decide +kernel), rfl, rfl⟩
theorem rL_law_510 (L : Nat) (xs : Nat → Int32) : dKI (mL_law L xs) 510 0 511 := Or.inl ⟨0, (show decode cL_law 510 = .ok (.iconst 0, 1) by decide +kernel), rfl, rfl⟩
theorem rL_law_511 (L : Nat) (xs : Nat → Int32) : dO (mL_law L xs) 511 .ireturn 512 := ⟨(show decode cL_law 511 = .ok (.ireturn, 1) by decide +kernel), rfl⟩
theorem rL_law_512 (L : Nat) (xs : Nat → Int32) : dAL (mL_law L xs) 512 1 513 := Or.inl ⟨1, (show decode cL_law 512 = .ok (.aload_n 1, 1) by decide +kernel), rfl, rfl⟩
theorem rL_law_513 (L : Nat) (xs : Nat → Int32) : dAL (mL_law L xs) 513 0 514 := Or.inl ⟨0, (show decode cL_law 513 = .ok (.aload_n 0, 1) by decide +kernel), rfl, rfl⟩
theorem rL_law_514 (L : Nat) (xs : Nat → Int32) : dIL (mL_law L xs) 514 3 515 := Or.inl ⟨3, (show decode cL_law 514 = .ok (.iload_n 3, 1) by decide +kernel), rfl, rfl⟩
theorem rL_law_515 (L : Nat) (xs : Nat → Int32) : dKI (mL_law L xs) 515 1 516 := Or.inl ⟨1, (show decode cL_law 515 = .ok (.iconst 1, 1) by decide +kernel), rfl, rfl⟩
theorem rL_law_516 (L : Nat) (xs : Nat → Int32) : dO (mL_law L xs) 516 .iadd 517 := ⟨(show decode cL_law 516 = .ok (.iadd, 1) by decide +kernel), rfl⟩
theorem rL_law_517 (L : Nat) (xs : Nat → Int32) : dO (mL_law L xs) 517 .iaload 518 := ⟨(show decode cL_law 517 = .ok (.iaload, 1) by decide +kernel), rfl⟩
theorem rL_law_518 (L : Nat) (xs : Nat → Int32) : dCV (mL_law L xs) 518 m6_ways 521 := ⟨81, (show decode cL_law 518 = .ok (.invokevirtual 81, 3) by decide +kernel), t_739, Nat.le_of_ble_eq_true rfl, rfl⟩
theorem rL_law_521 (L : Nat) (xs : Nat → Int32) : dAL (mL_law L xs) 521 2 522 := Or.inl ⟨2, (show decode cL_law 521 = .ok (.aload_n 2, 1) by decide +kernel), rfl, rfl⟩
theorem rL_law_522 (L : Nat) (xs : Nat → Int32) : dAL (mL_law L xs) 522 0 523 := Or.inl ⟨0, (show decode cL_law 522 = .ok (.aload_n 0, 1) by decide +kernel), rfl, rfl⟩
theorem rL_law_523 (L : Nat) (xs : Nat → Int32) : dIL (mL_law L xs) 523 3 524 := Or.inl ⟨3, (show decode cL_law 523 = .ok (.iload_n 3, 1) by decide +kernel), rfl, rfl⟩
theorem rL_law_524 (L : Nat) (xs : Nat → Int32) : dKI (mL_law L xs) 524 1 525 := Or.inl ⟨1, (show decode cL_law 524 = .ok (.iconst 1, 1) by decide +kernel), rfl, rfl⟩
theorem rL_law_525 (L : Nat) (xs : Nat → Int32) : dO (mL_law L xs) 525 .iadd 526 := ⟨(show decode cL_law 525 = .ok (.iadd, 1) by decide +kernel), rfl⟩
theorem rL_law_526 (L : Nat) (xs : Nat → Int32) : dO (mL_law L xs) 526 .iaload 527 := ⟨(show decode cL_law 526 = .ok (.iaload, 1) by decide +kernel), rfl⟩
theorem rL_law_527 (L : Nat) (xs : Nat → Int32) : dCV (mL_law L xs) 527 m7_ways 530 := ⟨84, (show decode cL_law 527 = .ok (.invokevirtual 84, 3) by decide +kernel), t_1251, Nat.le_of_ble_eq_true rfl, rfl⟩
theorem rL_law_530 (L : Nat) (xs : Nat → Int32) : dJ (mL_law L xs) 530 (.if_icmp .eq) 533 572 := ⟨42, (show decode cL_law 530 = .ok (.if_icmp .eq 42, 3) by decide +kernel), rfl, rfl⟩
theorem rL_law_533 (L : Nat) (xs : Nat → Int32) : dKI (mL_law L xs) 533 0 534 := Or.inl ⟨0, (show decode cL_law 533 = .ok (.iconst 0, 1) by decide +kernel), rfl, rfl⟩
theorem rL_law_534 (L : Nat) (xs : Nat → Int32) : dO (mL_law L xs) 534 .ireturn 535 := ⟨(show decode cL_law 534 = .ok (.ireturn, 1) by decide +kernel), rfl⟩
theorem rL_law_535 (L : Nat) (xs : Nat → Int32) : dAL (mL_law L xs) 535 1 536 := Or.inl ⟨1, (show decode cL_law 535 = .ok (.aload_n 1, 1) by decide +kernel), rfl, rfl⟩
theorem rL_law_536 (L : Nat) (xs : Nat → Int32) : dAL (mL_law L xs) 536 0 537 := Or.inl ⟨0, (show decode cL_law 536 = .ok (.aload_n 0, 1) by decide +kernel), rfl, rfl⟩
theorem rL_law_537 (L : Nat) (xs : Nat → Int32) : dIL (mL_law L xs) 537 3 538 := Or.inl ⟨3, (show decode cL_law 537 = .ok (.iload_n 3, 1) by decide +kernel), rfl, rfl⟩
theorem rL_law_538 (L : Nat) (xs : Nat → Int32) : dKI (mL_law L xs) 538 1 539 := Or.inl ⟨1, (show decode cL_law 538 = .ok (.iconst 1, 1) by decide +kernel), rfl, rfl⟩
theorem rL_law_539 (L : Nat) (xs : Nat → Int32) : dO (mL_law L xs) 539 .iadd 540 := ⟨(show decode cL_law 539 = .ok (.iadd, 1) by decide +kernel), rfl⟩
theorem rL_law_540 (L : Nat) (xs : Nat → Int32) : dO (mL_law L xs) 540 .iaload 541 := ⟨(show decode cL_law 540 = .ok (.iaload, 1) by decide +kernel), rfl⟩
theorem rL_law_541 (L : Nat) (xs : Nat → Int32) : dCV (mL_law L xs) 541 m6_count 544 := ⟨85, (show decode cL_law 541 = .ok (.invokevirtual 85, 3) by decide +kernel), t_764, Nat.le_of_ble_eq_true rfl, rfl⟩
theorem rL_law_544 (L : Nat) (xs : Nat → Int32) : dAL (mL_law L xs) 544 2 545 := Or.inl ⟨2, (show decode cL_law 544 = .ok (.aload_n 2, 1) by decide +kernel), rfl, rfl⟩
theorem rL_law_545 (L : Nat) (xs : Nat → Int32) : dAL (mL_law L xs) 545 0 546 := Or.inl ⟨0, (show decode cL_law 545 = .ok (.aload_n 0, 1) by decide +kernel), rfl, rfl⟩
theorem rL_law_546 (L : Nat) (xs : Nat → Int32) : dIL (mL_law L xs) 546 3 547 := Or.inl ⟨3, (show decode cL_law 546 = .ok (.iload_n 3, 1) by decide +kernel), rfl, rfl⟩
theorem rL_law_547 (L : Nat) (xs : Nat → Int32) : dKI (mL_law L xs) 547 1 548 := Or.inl ⟨1, (show decode cL_law 547 = .ok (.iconst 1, 1) by decide +kernel), rfl, rfl⟩
theorem rL_law_548 (L : Nat) (xs : Nat → Int32) : dO (mL_law L xs) 548 .iadd 549 := ⟨(show decode cL_law 548 = .ok (.iadd, 1) by decide +kernel), rfl⟩
theorem rL_law_549 (L : Nat) (xs : Nat → Int32) : dO (mL_law L xs) 549 .iaload 550 := ⟨(show decode cL_law 549 = .ok (.iaload, 1) by decide +kernel), rfl⟩
theorem rL_law_550 (L : Nat) (xs : Nat → Int32) : dCV (mL_law L xs) 550 m7_count 553 := ⟨88, (show decode cL_law 550 = .ok (.invokevirtual 88, 3) by decide +kernel), t_1264, Nat.le_of_ble_eq_true rfl, rfl⟩
theorem rL_law_553 (L : Nat) (xs : Nat → Int32) : dJ (mL_law L xs) 553 (.if_icmp .eq) 556 572 := ⟨19, (show decode cL_law 553 = .ok (.if_icmp .eq 19, 3) by decide +kernel), rfl, rfl⟩
theorem rL_law_556 (L : Nat) (xs : Nat → Int32) : dKI (mL_law L xs) 556 0 557 := Or.inl ⟨0, (show decode cL_law 556 = .ok (.iconst 0, 1) by decide +kernel), rfl, rfl⟩
theorem rL_law_557 (L : Nat) (xs : Nat → Int32) : dO (mL_law L xs) 557 .ireturn 558 := ⟨(show decode cL_law 557 = .ok (.ireturn, 1) by decide +kernel), rfl⟩
theorem rL_law_558 (L : Nat) (xs : Nat → Int32) : dAL (mL_law L xs) 558 1 559 := Or.inl ⟨1, (show decode cL_law 558 = .ok (.aload_n 1, 1) by decide +kernel), rfl, rfl⟩
theorem rL_law_559 (L : Nat) (xs : Nat → Int32) : dCV (mL_law L xs) 559 m6_digest 562 := ⟨89, (show decode cL_law 559 = .ok (.invokevirtual 89, 3) by decide +kernel), t_768, Nat.le_of_ble_eq_true rfl, rfl⟩
theorem rL_law_562 (L : Nat) (xs : Nat → Int32) : dAL (mL_law L xs) 562 2 563 := Or.inl ⟨2, (show decode cL_law 562 = .ok (.aload_n 2, 1) by decide +kernel), rfl, rfl⟩
theorem rL_law_563 (L : Nat) (xs : Nat → Int32) : dCV (mL_law L xs) 563 m7_digest 566 := ⟨93, (show decode cL_law 563 = .ok (.invokevirtual 93, 3) by decide +kernel), t_1272, Nat.le_of_ble_eq_true rfl, rfl⟩
theorem rL_law_566 (L : Nat) (xs : Nat → Int32) : dO (mL_law L xs) 566 .lcmp 567 := ⟨(show decode cL_law 566 = .ok (.lcmp, 1) by decide +kernel), rfl⟩
theorem rL_law_567 (L : Nat) (xs : Nat → Int32) : dJ (mL_law L xs) 567 (.ifCond .eq) 570 572 := ⟨5, (show decode cL_law 567 = .ok (.ifCond .eq 5, 3) by decide +kernel), rfl, rfl⟩
theorem rL_law_570 (L : Nat) (xs : Nat → Int32) : dKI (mL_law L xs) 570 0 571 := Or.inl ⟨0, (show decode cL_law 570 = .ok (.iconst 0, 1) by decide +kernel), rfl, rfl⟩
theorem rL_law_571 (L : Nat) (xs : Nat → Int32) : dO (mL_law L xs) 571 .ireturn 572 := ⟨(show decode cL_law 571 = .ok (.ireturn, 1) by decide +kernel), rfl⟩
theorem rL_law_572 (L : Nat) (xs : Nat → Int32) : dII (mL_law L xs) 572 3 4 575 := ⟨4, (show decode cL_law 572 = .ok (.iinc 3 4, 3) by decide +kernel), rfl, rfl, Nat.le_of_ble_eq_true rfl⟩
theorem rL_law_575 (L : Nat) (xs : Nat → Int32) : dJ (mL_law L xs) 575 .goto 578 18 := ⟨(-557), (show decode cL_law 575 = .ok (.goto (-557), 3) by decide +kernel), rfl, rfl⟩
theorem rL_law_578 (L : Nat) (xs : Nat → Int32) : dKI (mL_law L xs) 578 1 579 := Or.inl ⟨1, (show decode cL_law 578 = .ok (.iconst 1, 1) by decide +kernel), rfl, rfl⟩
theorem rL_law_579 (L : Nat) (xs : Nat → Int32) : dO (mL_law L xs) 579 .ireturn 580 := ⟨(show decode cL_law 579 = .ok (.ireturn, 1) by decide +kernel), rfl⟩
