section
variable {call : am_I → List Value → am_St → Option (Option Value × am_St)} {S : List Value} {σ : am_St} {x y w : Int32} {z z2 : Int64} {a b : Nat} {l0 l1 l2 l3 l4 l5 l6 l7 l8 l9 l10 l11 l12 l13 : Option Value} {s0 v0 s1 v1 s2 v2 s3 v3 s4 v4 s5 v5 s6 v6 s7 v7 s8 v8 : Int32} {q0 p0 q1 p1 q2 p2 q3 p3 q4 p4 q5 p5 q6 p6 q7 p7 q8 p8 : Nat} {j0 w0 j1 w1 j2 w2 j3 w3 j4 w4 j5 w5 j6 w6 j7 w7 j8 w8 : Int64}
theorem dX11_judged_0 : decode cX11_judged 0 = .ok (.aload_n 0, 1) := by decide +kernel
theorem dX11_judged_1 : decode cX11_judged 1 = .ok (.getfield 29, 3) := by decide +kernel
theorem dX11_judged_4 : decode cX11_judged 4 = .ok (.getfield 131, 3) := by decide +kernel
theorem dX11_judged_7 : decode cX11_judged 7 = .ok (.iconst (-1), 1) := by decide +kernel
theorem dX11_judged_8 : decode cX11_judged 8 = .ok (.if_icmp .ne 5, 3) := by decide +kernel
theorem dX11_judged_11 : decode cX11_judged 11 = .ok (.iconst (-1), 1) := by decide +kernel
theorem dX11_judged_12 : decode cX11_judged 12 = .ok (.ireturn, 1) := by decide +kernel
theorem dX11_judged_13 : decode cX11_judged 13 = .ok (.aload_n 0, 1) := by decide +kernel
theorem dX11_judged_14 : decode cX11_judged 14 = .ok (.getfield 29, 3) := by decide +kernel
theorem dX11_judged_17 : decode cX11_judged 17 = .ok (.getfield 134, 3) := by decide +kernel
theorem dX11_judged_20 : decode cX11_judged 20 = .ok (.astore_n 2, 1) := by decide +kernel
theorem dX11_judged_21 : decode cX11_judged 21 = .ok (.iload_n 1, 1) := by decide +kernel
theorem dX11_judged_22 : decode cX11_judged 22 = .ok (.tableswitch 152 0 8 #[50, 58, 66, 77, 88, 99, 107, 115, 124], 50) := by decide +kernel
theorem dX11_judged_72 : decode cX11_judged 72 = .ok (.aload_n 0, 1) := by decide +kernel
theorem dX11_judged_73 : decode cX11_judged 73 = .ok (.getfield 29, 3) := by decide +kernel
theorem dX11_judged_76 : decode cX11_judged 76 = .ok (.getfield 131, 3) := by decide +kernel
theorem dX11_judged_79 : decode cX11_judged 79 = .ok (.ireturn, 1) := by decide +kernel
theorem dX11_judged_80 : decode cX11_judged 80 = .ok (.aload_n 0, 1) := by decide +kernel
theorem dX11_judged_81 : decode cX11_judged 81 = .ok (.getfield 29, 3) := by decide +kernel
theorem dX11_judged_84 : decode cX11_judged 84 = .ok (.getfield 122, 3) := by decide +kernel
theorem dX11_judged_87 : decode cX11_judged 87 = .ok (.ireturn, 1) := by decide +kernel
theorem dX11_judged_88 : decode cX11_judged 88 = .ok (.aload_n 0, 1) := by decide +kernel
theorem dX11_judged_89 : decode cX11_judged 89 = .ok (.getfield 29, 3) := by decide +kernel
theorem dX11_judged_92 : decode cX11_judged 92 = .ok (.getfield 137, 3) := by decide +kernel
theorem dX11_judged_95 : decode cX11_judged 95 = .ok (.getfield 141, 3) := by decide +kernel
theorem dX11_judged_98 : decode cX11_judged 98 = .ok (.ireturn, 1) := by decide +kernel
theorem dX11_judged_99 : decode cX11_judged 99 = .ok (.aload_n 0, 1) := by decide +kernel
theorem dX11_judged_100 : decode cX11_judged 100 = .ok (.getfield 29, 3) := by decide +kernel
theorem dX11_judged_103 : decode cX11_judged 103 = .ok (.getfield 137, 3) := by decide +kernel
theorem dX11_judged_106 : decode cX11_judged 106 = .ok (.getfield 146, 3) := by decide +kernel
theorem dX11_judged_109 : decode cX11_judged 109 = .ok (.ireturn, 1) := by decide +kernel
theorem dX11_judged_110 : decode cX11_judged 110 = .ok (.aload_n 0, 1) := by decide +kernel
theorem dX11_judged_111 : decode cX11_judged 111 = .ok (.getfield 29, 3) := by decide +kernel
theorem dX11_judged_114 : decode cX11_judged 114 = .ok (.getfield 137, 3) := by decide +kernel
theorem dX11_judged_117 : decode cX11_judged 117 = .ok (.getfield 149, 3) := by decide +kernel
theorem dX11_judged_120 : decode cX11_judged 120 = .ok (.ireturn, 1) := by decide +kernel
theorem dX11_judged_121 : decode cX11_judged 121 = .ok (.aload_n 0, 1) := by decide +kernel
theorem dX11_judged_122 : decode cX11_judged 122 = .ok (.getfield 29, 3) := by decide +kernel
theorem dX11_judged_125 : decode cX11_judged 125 = .ok (.getfield 152, 3) := by decide +kernel
theorem dX11_judged_128 : decode cX11_judged 128 = .ok (.ireturn, 1) := by decide +kernel
theorem dX11_judged_129 : decode cX11_judged 129 = .ok (.aload_n 0, 1) := by decide +kernel
theorem dX11_judged_130 : decode cX11_judged 130 = .ok (.getfield 29, 3) := by decide +kernel
theorem dX11_judged_133 : decode cX11_judged 133 = .ok (.getfield 155, 3) := by decide +kernel
theorem dX11_judged_136 : decode cX11_judged 136 = .ok (.ireturn, 1) := by decide +kernel
theorem dX11_judged_137 : decode cX11_judged 137 = .ok (.aload_n 0, 1) := by decide +kernel
theorem dX11_judged_138 : decode cX11_judged 138 = .ok (.getfield 66, 3) := by decide +kernel
theorem dX11_judged_141 : decode cX11_judged 141 = .ok (.aload_n 2, 1) := by decide +kernel
theorem dX11_judged_142 : decode cX11_judged 142 = .ok (.invokevirtual 158, 3) := by decide +kernel
theorem dX11_judged_145 : decode cX11_judged 145 = .ok (.ireturn, 1) := by decide +kernel
theorem dX11_judged_146 : decode cX11_judged 146 = .ok (.aload_n 2, 1) := by decide +kernel
theorem dX11_judged_147 : decode cX11_judged 147 = .ok (.getfield 162, 3) := by decide +kernel
theorem dX11_judged_150 : decode cX11_judged 150 = .ok (.ifCond .ne 7, 3) := by decide +kernel
theorem dX11_judged_153 : decode cX11_judged 153 = .ok (.iconst (-1), 1) := by decide +kernel
theorem dX11_judged_154 : decode cX11_judged 154 = .ok (.goto 19, 3) := by decide +kernel
theorem dX11_judged_157 : decode cX11_judged 157 = .ok (.aload_n 0, 1) := by decide +kernel
theorem dX11_judged_158 : decode cX11_judged 158 = .ok (.getfield 66, 3) := by decide +kernel
theorem dX11_judged_161 : decode cX11_judged 161 = .ok (.aload_n 2, 1) := by decide +kernel
theorem dX11_judged_162 : decode cX11_judged 162 = .ok (.getfield 165, 3) := by decide +kernel
theorem dX11_judged_165 : decode cX11_judged 165 = .ok (.iconst 0, 1) := by decide +kernel
theorem dX11_judged_166 : decode cX11_judged 166 = .ok (.aload_n 2, 1) := by decide +kernel
theorem dX11_judged_167 : decode cX11_judged 167 = .ok (.getfield 162, 3) := by decide +kernel
theorem dX11_judged_170 : decode cX11_judged 170 = .ok (.invokevirtual 168, 3) := by decide +kernel
theorem dX11_judged_173 : decode cX11_judged 173 = .ok (.ireturn, 1) := by decide +kernel
theorem dX11_judged_174 : decode cX11_judged 174 = .ok (.iconst (-1), 1) := by decide +kernel
theorem dX11_judged_175 : decode cX11_judged 175 = .ok (.ireturn, 1) := by decide +kernel
theorem eX11_judged_0 : am_lim call mX11_judged 0 [some (.ref a), l1, l2] (S) σ = am_lim call mX11_judged 1 [some (.ref a), l1, l2] (.ref a :: S) σ := r_aload_n dX11_judged_0 rfl
theorem eX11_judged_1 (h : g_o σ a 11) : am_lim call mX11_judged 1 [l0, l1, l2] (.ref a :: S) σ = am_lim call mX11_judged 4 [l0, l1, l2] (va_rf (g_R σ a 5) :: S) σ := r_getR dX11_judged_1 f_11_29 rfl h
theorem eX11_judged_4 (h : g_o σ a 2) : am_lim call mX11_judged 4 [l0, l1, l2] (.ref a :: S) σ = am_lim call mX11_judged 7 [l0, l1, l2] (.int (g_I σ a 3) :: S) σ := r_getI dX11_judged_4 f_11_131 rfl h
theorem eX11_judged_7 : am_lim call mX11_judged 7 [l0, l1, l2] (S) σ = am_lim call mX11_judged 8 [l0, l1, l2] (.int (-1) :: S) σ := r_iconst dX11_judged_7 (by decide)
theorem eX11_judged_8 : am_lim call mX11_judged 8 [l0, l1, l2] (.int y :: .int x :: S) σ = if x ≠ y then am_lim call mX11_judged 13 [l0, l1, l2] (S) σ else am_lim call mX11_judged 11 [l0, l1, l2] (S) σ := r_icmpB 13 dX11_judged_8 (by decide) rfl
theorem eX11_judged_11 : am_lim call mX11_judged 11 [l0, l1, l2] (S) σ = am_lim call mX11_judged 12 [l0, l1, l2] (.int (-1) :: S) σ := r_iconst dX11_judged_11 (by decide)
theorem eX11_judged_12 : am_lim call mX11_judged 12 [l0, l1, l2] ([.int x]) σ = some (some (.int x), σ) := r_retI dX11_judged_12 rfl
theorem eX11_judged_13 : am_lim call mX11_judged 13 [some (.ref a), l1, l2] (S) σ = am_lim call mX11_judged 14 [some (.ref a), l1, l2] (.ref a :: S) σ := r_aload_n dX11_judged_13 rfl
theorem eX11_judged_14 (h : g_o σ a 11) : am_lim call mX11_judged 14 [l0, l1, l2] (.ref a :: S) σ = am_lim call mX11_judged 17 [l0, l1, l2] (va_rf (g_R σ a 5) :: S) σ := r_getR dX11_judged_14 f_11_29 rfl h
theorem eX11_judged_17 (h : g_o σ a 2) : am_lim call mX11_judged 17 [l0, l1, l2] (.ref a :: S) σ = am_lim call mX11_judged 20 [l0, l1, l2] (va_rf (g_R σ a 2) :: S) σ := r_getR dX11_judged_17 f_11_134 rfl h
theorem eX11_judged_20 : am_lim call mX11_judged 20 [l0, l1, l2] (.ref a :: S) σ = am_lim call mX11_judged 21 [l0, l1, some (.ref a)] (S) σ := r_astore_n dX11_judged_20 rfl rfl rfl rfl
theorem eX11_judged_21 : am_lim call mX11_judged 21 [l0, some (.int x), l2] (S) σ = am_lim call mX11_judged 22 [l0, some (.int x), l2] (.int x :: S) σ := r_iload_n dX11_judged_21 rfl
theorem eX11_judged_22_0 : am_lim call mX11_judged 22 [l0, l1, l2] (.int 0 :: S) σ = am_lim call mX11_judged 72 [l0, l1, l2] (S) σ := r_tsK (off := 50) 72 dX11_judged_22 (by decide) (by decide) (by decide)
theorem eX11_judged_22_1 : am_lim call mX11_judged 22 [l0, l1, l2] (.int 1 :: S) σ = am_lim call mX11_judged 80 [l0, l1, l2] (S) σ := r_tsK (off := 58) 80 dX11_judged_22 (by decide) (by decide) (by decide)
theorem eX11_judged_22_2 : am_lim call mX11_judged 22 [l0, l1, l2] (.int 2 :: S) σ = am_lim call mX11_judged 88 [l0, l1, l2] (S) σ := r_tsK (off := 66) 88 dX11_judged_22 (by decide) (by decide) (by decide)
theorem eX11_judged_22_3 : am_lim call mX11_judged 22 [l0, l1, l2] (.int 3 :: S) σ = am_lim call mX11_judged 99 [l0, l1, l2] (S) σ := r_tsK (off := 77) 99 dX11_judged_22 (by decide) (by decide) (by decide)
theorem eX11_judged_22_4 : am_lim call mX11_judged 22 [l0, l1, l2] (.int 4 :: S) σ = am_lim call mX11_judged 110 [l0, l1, l2] (S) σ := r_tsK (off := 88) 110 dX11_judged_22 (by decide) (by decide) (by decide)
theorem eX11_judged_22_5 : am_lim call mX11_judged 22 [l0, l1, l2] (.int 5 :: S) σ = am_lim call mX11_judged 121 [l0, l1, l2] (S) σ := r_tsK (off := 99) 121 dX11_judged_22 (by decide) (by decide) (by decide)
theorem eX11_judged_22_6 : am_lim call mX11_judged 22 [l0, l1, l2] (.int 6 :: S) σ = am_lim call mX11_judged 129 [l0, l1, l2] (S) σ := r_tsK (off := 107) 129 dX11_judged_22 (by decide) (by decide) (by decide)
theorem eX11_judged_22_7 : am_lim call mX11_judged 22 [l0, l1, l2] (.int 7 :: S) σ = am_lim call mX11_judged 137 [l0, l1, l2] (S) σ := r_tsK (off := 115) 137 dX11_judged_22 (by decide) (by decide) (by decide)
theorem eX11_judged_22_8 : am_lim call mX11_judged 22 [l0, l1, l2] (.int 8 :: S) σ = am_lim call mX11_judged 146 [l0, l1, l2] (S) σ := r_tsK (off := 124) 146 dX11_judged_22 (by decide) (by decide) (by decide)
theorem eX11_judged_22_d (h : x.toInt < 0 ∨ 8 < x.toInt) : am_lim call mX11_judged 22 [l0, l1, l2] (.int x :: S) σ = am_lim call mX11_judged 174 [l0, l1, l2] (S) σ := r_tsD 174 dX11_judged_22 h (by decide)
theorem eX11_judged_174 : am_lim call mX11_judged 174 [l0, l1, l2] (S) σ = am_lim call mX11_judged 175 [l0, l1, l2] (.int (-1) :: S) σ := r_iconst dX11_judged_174 (by decide)
theorem eX11_judged_175 : am_lim call mX11_judged 175 [l0, l1, l2] ([.int x]) σ = some (some (.int x), σ) := r_retI dX11_judged_175 rfl
theorem eX11_judged_146 : am_lim call mX11_judged 146 [l0, l1, some (.ref a)] (S) σ = am_lim call mX11_judged 147 [l0, l1, some (.ref a)] (.ref a :: S) σ := r_aload_n dX11_judged_146 rfl
theorem eX11_judged_147 (h : g_o σ a 4) : am_lim call mX11_judged 147 [l0, l1, l2] (.ref a :: S) σ = am_lim call mX11_judged 150 [l0, l1, l2] (.int (g_I σ a 1) :: S) σ := r_getI dX11_judged_147 f_11_162 rfl h
theorem eX11_judged_150 : am_lim call mX11_judged 150 [l0, l1, l2] (.int x :: S) σ = if x ≠ 0 then am_lim call mX11_judged 157 [l0, l1, l2] (S) σ else am_lim call mX11_judged 153 [l0, l1, l2] (S) σ := r_ifB 157 dX11_judged_150 (by decide) rfl
theorem eX11_judged_153 : am_lim call mX11_judged 153 [l0, l1, l2] (S) σ = am_lim call mX11_judged 154 [l0, l1, l2] (.int (-1) :: S) σ := r_iconst dX11_judged_153 (by decide)
theorem eX11_judged_154 : am_lim call mX11_judged 154 [l0, l1, l2] (S) σ = am_lim call mX11_judged 173 [l0, l1, l2] (S) σ := r_goto 173 dX11_judged_154 (by decide)
theorem eX11_judged_173 : am_lim call mX11_judged 173 [l0, l1, l2] ([.int x]) σ = some (some (.int x), σ) := r_retI dX11_judged_173 rfl
theorem eX11_judged_157 : am_lim call mX11_judged 157 [some (.ref a), l1, l2] (S) σ = am_lim call mX11_judged 158 [some (.ref a), l1, l2] (.ref a :: S) σ := r_aload_n dX11_judged_157 rfl
theorem eX11_judged_158 (h : g_o σ a 11) : am_lim call mX11_judged 158 [l0, l1, l2] (.ref a :: S) σ = am_lim call mX11_judged 161 [l0, l1, l2] (va_rf (g_R σ a 4) :: S) σ := r_getR dX11_judged_158 f_11_66 rfl h
theorem eX11_judged_161 : am_lim call mX11_judged 161 [l0, l1, some (.ref a)] (S) σ = am_lim call mX11_judged 162 [l0, l1, some (.ref a)] (.ref a :: S) σ := r_aload_n dX11_judged_161 rfl
theorem eX11_judged_162 (h : g_o σ a 4) : am_lim call mX11_judged 162 [l0, l1, l2] (.ref a :: S) σ = am_lim call mX11_judged 165 [l0, l1, l2] (va_rf (g_R σ a 0) :: S) σ := r_getR dX11_judged_162 f_11_165 rfl h
theorem eX11_judged_165 : am_lim call mX11_judged 165 [l0, l1, l2] (S) σ = am_lim call mX11_judged 166 [l0, l1, l2] (.int 0 :: S) σ := r_iconst dX11_judged_165 (by decide)
theorem eX11_judged_166 : am_lim call mX11_judged 166 [l0, l1, some (.ref a)] (S) σ = am_lim call mX11_judged 167 [l0, l1, some (.ref a)] (.ref a :: S) σ := r_aload_n dX11_judged_166 rfl
theorem eX11_judged_167 (h : g_o σ a 4) : am_lim call mX11_judged 167 [l0, l1, l2] (.ref a :: S) σ = am_lim call mX11_judged 170 [l0, l1, l2] (.int (g_I σ a 1) :: S) σ := r_getI dX11_judged_167 f_11_162 rfl h
theorem eX11_judged_170 (h : g_o σ b 6) : am_lim call mX11_judged 170 [l0, l1, l2] (.int v2 :: .int v1 :: .ref p0 :: .ref b :: []) σ = am_k (call mX6_rank [.ref b, .ref p0, .int v1, .int v2] σ) (fun r σ1 => am_lim call mX11_judged 173 [l0, l1, l2] (r.toList ++ []) σ1) := r_kV (S1 := [.int v2, .int v1, .ref p0]) dX11_judged_170 mt_11_168 rfl h (Nat.le_of_ble_eq_true rfl)
theorem eX11_judged_137 : am_lim call mX11_judged 137 [some (.ref a), l1, l2] (S) σ = am_lim call mX11_judged 138 [some (.ref a), l1, l2] (.ref a :: S) σ := r_aload_n dX11_judged_137 rfl
theorem eX11_judged_138 (h : g_o σ a 11) : am_lim call mX11_judged 138 [l0, l1, l2] (.ref a :: S) σ = am_lim call mX11_judged 141 [l0, l1, l2] (va_rf (g_R σ a 4) :: S) σ := r_getR dX11_judged_138 f_11_66 rfl h
theorem eX11_judged_141 : am_lim call mX11_judged 141 [l0, l1, some (.ref a)] (S) σ = am_lim call mX11_judged 142 [l0, l1, some (.ref a)] (.ref a :: S) σ := r_aload_n dX11_judged_141 rfl
theorem eX11_judged_142 (h : g_o σ b 6) : am_lim call mX11_judged 142 [l0, l1, l2] (.ref p0 :: .ref b :: []) σ = am_k (call mX6_guessesIn [.ref b, .ref p0] σ) (fun r σ1 => am_lim call mX11_judged 145 [l0, l1, l2] (r.toList ++ []) σ1) := r_kV (S1 := [.ref p0]) dX11_judged_142 mt_11_158 rfl h (Nat.le_of_ble_eq_true rfl)
theorem eX11_judged_145 : am_lim call mX11_judged 145 [l0, l1, l2] ([.int x]) σ = some (some (.int x), σ) := r_retI dX11_judged_145 rfl
theorem eX11_judged_129 : am_lim call mX11_judged 129 [some (.ref a), l1, l2] (S) σ = am_lim call mX11_judged 130 [some (.ref a), l1, l2] (.ref a :: S) σ := r_aload_n dX11_judged_129 rfl
theorem eX11_judged_130 (h : g_o σ a 11) : am_lim call mX11_judged 130 [l0, l1, l2] (.ref a :: S) σ = am_lim call mX11_judged 133 [l0, l1, l2] (va_rf (g_R σ a 5) :: S) σ := r_getR dX11_judged_130 f_11_29 rfl h
theorem eX11_judged_133 (h : g_o σ a 2) : am_lim call mX11_judged 133 [l0, l1, l2] (.ref a :: S) σ = am_lim call mX11_judged 136 [l0, l1, l2] (.int (g_I σ a 6) :: S) σ := r_getI dX11_judged_133 f_11_155 rfl h
theorem eX11_judged_136 : am_lim call mX11_judged 136 [l0, l1, l2] ([.int x]) σ = some (some (.int x), σ) := r_retI dX11_judged_136 rfl
theorem eX11_judged_121 : am_lim call mX11_judged 121 [some (.ref a), l1, l2] (S) σ = am_lim call mX11_judged 122 [some (.ref a), l1, l2] (.ref a :: S) σ := r_aload_n dX11_judged_121 rfl
theorem eX11_judged_122 (h : g_o σ a 11) : am_lim call mX11_judged 122 [l0, l1, l2] (.ref a :: S) σ = am_lim call mX11_judged 125 [l0, l1, l2] (va_rf (g_R σ a 5) :: S) σ := r_getR dX11_judged_122 f_11_29 rfl h
theorem eX11_judged_125 (h : g_o σ a 2) : am_lim call mX11_judged 125 [l0, l1, l2] (.ref a :: S) σ = am_lim call mX11_judged 128 [l0, l1, l2] (.int (g_I σ a 5) :: S) σ := r_getI dX11_judged_125 f_11_152 rfl h
theorem eX11_judged_128 : am_lim call mX11_judged 128 [l0, l1, l2] ([.int x]) σ = some (some (.int x), σ) := r_retI dX11_judged_128 rfl
theorem eX11_judged_110 : am_lim call mX11_judged 110 [some (.ref a), l1, l2] (S) σ = am_lim call mX11_judged 111 [some (.ref a), l1, l2] (.ref a :: S) σ := r_aload_n dX11_judged_110 rfl
theorem eX11_judged_111 (h : g_o σ a 11) : am_lim call mX11_judged 111 [l0, l1, l2] (.ref a :: S) σ = am_lim call mX11_judged 114 [l0, l1, l2] (va_rf (g_R σ a 5) :: S) σ := r_getR dX11_judged_111 f_11_29 rfl h
theorem eX11_judged_114 (h : g_o σ a 2) : am_lim call mX11_judged 114 [l0, l1, l2] (.ref a :: S) σ = am_lim call mX11_judged 117 [l0, l1, l2] (va_rf (g_R σ a 0) :: S) σ := r_getR dX11_judged_114 f_11_137 rfl h
theorem eX11_judged_117 (h : g_o σ a 0) : am_lim call mX11_judged 117 [l0, l1, l2] (.ref a :: S) σ = am_lim call mX11_judged 120 [l0, l1, l2] (.int (g_I σ a 4) :: S) σ := r_getI dX11_judged_117 f_11_149 rfl h
theorem eX11_judged_120 : am_lim call mX11_judged 120 [l0, l1, l2] ([.int x]) σ = some (some (.int x), σ) := r_retI dX11_judged_120 rfl
theorem eX11_judged_99 : am_lim call mX11_judged 99 [some (.ref a), l1, l2] (S) σ = am_lim call mX11_judged 100 [some (.ref a), l1, l2] (.ref a :: S) σ := r_aload_n dX11_judged_99 rfl
theorem eX11_judged_100 (h : g_o σ a 11) : am_lim call mX11_judged 100 [l0, l1, l2] (.ref a :: S) σ = am_lim call mX11_judged 103 [l0, l1, l2] (va_rf (g_R σ a 5) :: S) σ := r_getR dX11_judged_100 f_11_29 rfl h
theorem eX11_judged_103 (h : g_o σ a 2) : am_lim call mX11_judged 103 [l0, l1, l2] (.ref a :: S) σ = am_lim call mX11_judged 106 [l0, l1, l2] (va_rf (g_R σ a 0) :: S) σ := r_getR dX11_judged_103 f_11_137 rfl h
theorem eX11_judged_106 (h : g_o σ a 0) : am_lim call mX11_judged 106 [l0, l1, l2] (.ref a :: S) σ = am_lim call mX11_judged 109 [l0, l1, l2] (.int (g_I σ a 6) :: S) σ := r_getI dX11_judged_106 f_11_146 rfl h
theorem eX11_judged_109 : am_lim call mX11_judged 109 [l0, l1, l2] ([.int x]) σ = some (some (.int x), σ) := r_retI dX11_judged_109 rfl
theorem eX11_judged_88 : am_lim call mX11_judged 88 [some (.ref a), l1, l2] (S) σ = am_lim call mX11_judged 89 [some (.ref a), l1, l2] (.ref a :: S) σ := r_aload_n dX11_judged_88 rfl
theorem eX11_judged_89 (h : g_o σ a 11) : am_lim call mX11_judged 89 [l0, l1, l2] (.ref a :: S) σ = am_lim call mX11_judged 92 [l0, l1, l2] (va_rf (g_R σ a 5) :: S) σ := r_getR dX11_judged_89 f_11_29 rfl h
theorem eX11_judged_92 (h : g_o σ a 2) : am_lim call mX11_judged 92 [l0, l1, l2] (.ref a :: S) σ = am_lim call mX11_judged 95 [l0, l1, l2] (va_rf (g_R σ a 0) :: S) σ := r_getR dX11_judged_92 f_11_137 rfl h
theorem eX11_judged_95 (h : g_o σ a 0) : am_lim call mX11_judged 95 [l0, l1, l2] (.ref a :: S) σ = am_lim call mX11_judged 98 [l0, l1, l2] (.int (g_I σ a 5) :: S) σ := r_getI dX11_judged_95 f_11_141 rfl h
theorem eX11_judged_98 : am_lim call mX11_judged 98 [l0, l1, l2] ([.int x]) σ = some (some (.int x), σ) := r_retI dX11_judged_98 rfl
theorem eX11_judged_80 : am_lim call mX11_judged 80 [some (.ref a), l1, l2] (S) σ = am_lim call mX11_judged 81 [some (.ref a), l1, l2] (.ref a :: S) σ := r_aload_n dX11_judged_80 rfl
theorem eX11_judged_81 (h : g_o σ a 11) : am_lim call mX11_judged 81 [l0, l1, l2] (.ref a :: S) σ = am_lim call mX11_judged 84 [l0, l1, l2] (va_rf (g_R σ a 5) :: S) σ := r_getR dX11_judged_81 f_11_29 rfl h
theorem eX11_judged_84 (h : g_o σ a 2) : am_lim call mX11_judged 84 [l0, l1, l2] (.ref a :: S) σ = am_lim call mX11_judged 87 [l0, l1, l2] (.int (g_I σ a 4) :: S) σ := r_getI dX11_judged_84 f_11_122 rfl h
theorem eX11_judged_87 : am_lim call mX11_judged 87 [l0, l1, l2] ([.int x]) σ = some (some (.int x), σ) := r_retI dX11_judged_87 rfl
theorem eX11_judged_72 : am_lim call mX11_judged 72 [some (.ref a), l1, l2] (S) σ = am_lim call mX11_judged 73 [some (.ref a), l1, l2] (.ref a :: S) σ := r_aload_n dX11_judged_72 rfl
theorem eX11_judged_73 (h : g_o σ a 11) : am_lim call mX11_judged 73 [l0, l1, l2] (.ref a :: S) σ = am_lim call mX11_judged 76 [l0, l1, l2] (va_rf (g_R σ a 5) :: S) σ := r_getR dX11_judged_73 f_11_29 rfl h
theorem eX11_judged_76 (h : g_o σ a 2) : am_lim call mX11_judged 76 [l0, l1, l2] (.ref a :: S) σ = am_lim call mX11_judged 79 [l0, l1, l2] (.int (g_I σ a 3) :: S) σ := r_getI dX11_judged_76 f_11_131 rfl h
theorem eX11_judged_79 : am_lim call mX11_judged 79 [l0, l1, l2] ([.int x]) σ = some (some (.int x), σ) := r_retI dX11_judged_79 rfl
theorem nX11_judged {d : Nat} : am_run (d + 1) mX11_judged [.ref b, .int v0] σ = am_lim (am_run d) mX11_judged 0 [some (.ref b), some (.int v0), none] [] σ := am_run_S rfl rfl rfl rfl
theorem dX12_judged_0 : decode cX12_judged 0 = .ok (.aload_n 0, 1) := by decide +kernel
theorem dX12_judged_1 : decode cX12_judged 1 = .ok (.iconst 0, 1) := by decide +kernel
theorem dX12_judged_2 : decode cX12_judged 2 = .ok (.putfield 113, 3) := by decide +kernel
theorem dX12_judged_5 : decode cX12_judged 5 = .ok (.aload_n 0, 1) := by decide +kernel
theorem dX12_judged_6 : decode cX12_judged 6 = .ok (.getfield 431, 3) := by decide +kernel
theorem dX12_judged_9 : decode cX12_judged 9 = .ok (.ifCond .ne 5, 3) := by decide +kernel
theorem dX12_judged_12 : decode cX12_judged 12 = .ok (.iconst (-1), 1) := by decide +kernel
theorem dX12_judged_13 : decode cX12_judged 13 = .ok (.ireturn, 1) := by decide +kernel
theorem dX12_judged_14 : decode cX12_judged 14 = .ok (.iload_n 1, 1) := by decide +kernel
theorem dX12_judged_15 : decode cX12_judged 15 = .ok (.tableswitch 143 0 8 #[49, 54, 59, 64, 69, 74, 79, 103, 123], 49) := by decide +kernel
theorem dX12_judged_64 : decode cX12_judged 64 = .ok (.aload_n 0, 1) := by decide +kernel
theorem dX12_judged_65 : decode cX12_judged 65 = .ok (.getfield 428, 3) := by decide +kernel
theorem dX12_judged_68 : decode cX12_judged 68 = .ok (.ireturn, 1) := by decide +kernel
theorem dX12_judged_69 : decode cX12_judged 69 = .ok (.aload_n 0, 1) := by decide +kernel
theorem dX12_judged_70 : decode cX12_judged 70 = .ok (.getfield 273, 3) := by decide +kernel
theorem dX12_judged_73 : decode cX12_judged 73 = .ok (.ireturn, 1) := by decide +kernel
theorem dX12_judged_74 : decode cX12_judged 74 = .ok (.aload_n 0, 1) := by decide +kernel
theorem dX12_judged_75 : decode cX12_judged 75 = .ok (.getfield 252, 3) := by decide +kernel
theorem dX12_judged_78 : decode cX12_judged 78 = .ok (.ireturn, 1) := by decide +kernel
theorem dX12_judged_79 : decode cX12_judged 79 = .ok (.aload_n 0, 1) := by decide +kernel
theorem dX12_judged_80 : decode cX12_judged 80 = .ok (.getfield 258, 3) := by decide +kernel
theorem dX12_judged_83 : decode cX12_judged 83 = .ok (.ireturn, 1) := by decide +kernel
theorem dX12_judged_84 : decode cX12_judged 84 = .ok (.aload_n 0, 1) := by decide +kernel
theorem dX12_judged_85 : decode cX12_judged 85 = .ok (.getfield 249, 3) := by decide +kernel
theorem dX12_judged_88 : decode cX12_judged 88 = .ok (.ireturn, 1) := by decide +kernel
theorem dX12_judged_89 : decode cX12_judged 89 = .ok (.aload_n 0, 1) := by decide +kernel
theorem dX12_judged_90 : decode cX12_judged 90 = .ok (.getfield 288, 3) := by decide +kernel
theorem dX12_judged_93 : decode cX12_judged 93 = .ok (.ireturn, 1) := by decide +kernel
theorem dX12_judged_94 : decode cX12_judged 94 = .ok (.aload_n 0, 1) := by decide +kernel
theorem dX12_judged_95 : decode cX12_judged 95 = .ok (.getfield 428, 3) := by decide +kernel
theorem dX12_judged_98 : decode cX12_judged 98 = .ok (.iconst 1, 1) := by decide +kernel
theorem dX12_judged_99 : decode cX12_judged 99 = .ok (.if_icmp .ne 17, 3) := by decide +kernel
theorem dX12_judged_102 : decode cX12_judged 102 = .ok (.aload_n 0, 1) := by decide +kernel
theorem dX12_judged_103 : decode cX12_judged 103 = .ok (.getfield 447, 3) := by decide +kernel
theorem dX12_judged_106 : decode cX12_judged 106 = .ok (.ifCond .eq 10, 3) := by decide +kernel
theorem dX12_judged_109 : decode cX12_judged 109 = .ok (.aload_n 0, 1) := by decide +kernel
theorem dX12_judged_110 : decode cX12_judged 110 = .ok (.getfield 291, 3) := by decide +kernel
theorem dX12_judged_113 : decode cX12_judged 113 = .ok (.goto 4, 3) := by decide +kernel
theorem dX12_judged_116 : decode cX12_judged 116 = .ok (.iconst (-1), 1) := by decide +kernel
theorem dX12_judged_117 : decode cX12_judged 117 = .ok (.ireturn, 1) := by decide +kernel
theorem dX12_judged_118 : decode cX12_judged 118 = .ok (.aload_n 0, 1) := by decide +kernel
theorem dX12_judged_119 : decode cX12_judged 119 = .ok (.invokevirtual 478, 3) := by decide +kernel
theorem dX12_judged_122 : decode cX12_judged 122 = .ok (.ifCond .eq 14, 3) := by decide +kernel
theorem dX12_judged_125 : decode cX12_judged 125 = .ok (.aload_n 0, 1) := by decide +kernel
theorem dX12_judged_126 : decode cX12_judged 126 = .ok (.aload_n 0, 1) := by decide +kernel
theorem dX12_judged_127 : decode cX12_judged 127 = .ok (.getfield 51, 3) := by decide +kernel
theorem dX12_judged_130 : decode cX12_judged 130 = .ok (.invokevirtual 485, 3) := by decide +kernel
theorem dX12_judged_133 : decode cX12_judged 133 = .ok (.goto 4, 3) := by decide +kernel
theorem dX12_judged_136 : decode cX12_judged 136 = .ok (.iconst 0, 1) := by decide +kernel
theorem dX12_judged_137 : decode cX12_judged 137 = .ok (.ireturn, 1) := by decide +kernel
theorem dX12_judged_138 : decode cX12_judged 138 = .ok (.aload_n 0, 1) := by decide +kernel
theorem dX12_judged_139 : decode cX12_judged 139 = .ok (.invokevirtual 478, 3) := by decide +kernel
theorem dX12_judged_142 : decode cX12_judged 142 = .ok (.ifCond .eq 14, 3) := by decide +kernel
theorem dX12_judged_145 : decode cX12_judged 145 = .ok (.aload_n 0, 1) := by decide +kernel
theorem dX12_judged_146 : decode cX12_judged 146 = .ok (.aload_n 0, 1) := by decide +kernel
theorem dX12_judged_147 : decode cX12_judged 147 = .ok (.getfield 51, 3) := by decide +kernel
theorem dX12_judged_150 : decode cX12_judged 150 = .ok (.invokevirtual 234, 3) := by decide +kernel
theorem dX12_judged_153 : decode cX12_judged 153 = .ok (.goto 4, 3) := by decide +kernel
theorem dX12_judged_156 : decode cX12_judged 156 = .ok (.iconst (-1), 1) := by decide +kernel
theorem dX12_judged_157 : decode cX12_judged 157 = .ok (.ireturn, 1) := by decide +kernel
theorem dX12_judged_158 : decode cX12_judged 158 = .ok (.iconst (-1), 1) := by decide +kernel
theorem dX12_judged_159 : decode cX12_judged 159 = .ok (.ireturn, 1) := by decide +kernel
theorem eX12_judged_0 : am_lim call mX12_judged 0 [some (.ref a), l1] (S) σ = am_lim call mX12_judged 1 [some (.ref a), l1] (.ref a :: S) σ := r_aload_n dX12_judged_0 rfl
theorem eX12_judged_1 : am_lim call mX12_judged 1 [l0, l1] (S) σ = am_lim call mX12_judged 2 [l0, l1] (.int 0 :: S) σ := r_iconst dX12_judged_1 (by decide)
theorem eX12_judged_2 (h : g_o σ a 12) : am_lim call mX12_judged 2 [l0, l1] (.int x :: .ref a :: S) σ = am_lim call mX12_judged 5 [l0, l1] (S) (am_sI σ a 0 x) := r_putI dX12_judged_2 f_12_113 rfl rfl h
theorem eX12_judged_5 : am_lim call mX12_judged 5 [some (.ref a), l1] (S) σ = am_lim call mX12_judged 6 [some (.ref a), l1] (.ref a :: S) σ := r_aload_n dX12_judged_5 rfl
theorem eX12_judged_6 (h : g_o σ a 12) : am_lim call mX12_judged 6 [l0, l1] (.ref a :: S) σ = am_lim call mX12_judged 9 [l0, l1] (.int (g_I σ a 36) :: S) σ := r_getI dX12_judged_6 f_12_431 rfl h
theorem eX12_judged_9 : am_lim call mX12_judged 9 [l0, l1] (.int x :: S) σ = if x ≠ 0 then am_lim call mX12_judged 14 [l0, l1] (S) σ else am_lim call mX12_judged 12 [l0, l1] (S) σ := r_ifB 14 dX12_judged_9 (by decide) rfl
theorem eX12_judged_12 : am_lim call mX12_judged 12 [l0, l1] (S) σ = am_lim call mX12_judged 13 [l0, l1] (.int (-1) :: S) σ := r_iconst dX12_judged_12 (by decide)
theorem eX12_judged_13 : am_lim call mX12_judged 13 [l0, l1] ([.int x]) σ = some (some (.int x), σ) := r_retI dX12_judged_13 rfl
theorem eX12_judged_14 : am_lim call mX12_judged 14 [l0, some (.int x)] (S) σ = am_lim call mX12_judged 15 [l0, some (.int x)] (.int x :: S) σ := r_iload_n dX12_judged_14 rfl
theorem eX12_judged_15_0 : am_lim call mX12_judged 15 [l0, l1] (.int 0 :: S) σ = am_lim call mX12_judged 64 [l0, l1] (S) σ := r_tsK (off := 49) 64 dX12_judged_15 (by decide) (by decide) (by decide)
theorem eX12_judged_15_1 : am_lim call mX12_judged 15 [l0, l1] (.int 1 :: S) σ = am_lim call mX12_judged 69 [l0, l1] (S) σ := r_tsK (off := 54) 69 dX12_judged_15 (by decide) (by decide) (by decide)
theorem eX12_judged_15_2 : am_lim call mX12_judged 15 [l0, l1] (.int 2 :: S) σ = am_lim call mX12_judged 74 [l0, l1] (S) σ := r_tsK (off := 59) 74 dX12_judged_15 (by decide) (by decide) (by decide)
theorem eX12_judged_15_3 : am_lim call mX12_judged 15 [l0, l1] (.int 3 :: S) σ = am_lim call mX12_judged 79 [l0, l1] (S) σ := r_tsK (off := 64) 79 dX12_judged_15 (by decide) (by decide) (by decide)
theorem eX12_judged_15_4 : am_lim call mX12_judged 15 [l0, l1] (.int 4 :: S) σ = am_lim call mX12_judged 84 [l0, l1] (S) σ := r_tsK (off := 69) 84 dX12_judged_15 (by decide) (by decide) (by decide)
theorem eX12_judged_15_5 : am_lim call mX12_judged 15 [l0, l1] (.int 5 :: S) σ = am_lim call mX12_judged 89 [l0, l1] (S) σ := r_tsK (off := 74) 89 dX12_judged_15 (by decide) (by decide) (by decide)
theorem eX12_judged_15_6 : am_lim call mX12_judged 15 [l0, l1] (.int 6 :: S) σ = am_lim call mX12_judged 94 [l0, l1] (S) σ := r_tsK (off := 79) 94 dX12_judged_15 (by decide) (by decide) (by decide)
theorem eX12_judged_15_7 : am_lim call mX12_judged 15 [l0, l1] (.int 7 :: S) σ = am_lim call mX12_judged 118 [l0, l1] (S) σ := r_tsK (off := 103) 118 dX12_judged_15 (by decide) (by decide) (by decide)
theorem eX12_judged_15_8 : am_lim call mX12_judged 15 [l0, l1] (.int 8 :: S) σ = am_lim call mX12_judged 138 [l0, l1] (S) σ := r_tsK (off := 123) 138 dX12_judged_15 (by decide) (by decide) (by decide)
theorem eX12_judged_15_d (h : x.toInt < 0 ∨ 8 < x.toInt) : am_lim call mX12_judged 15 [l0, l1] (.int x :: S) σ = am_lim call mX12_judged 158 [l0, l1] (S) σ := r_tsD 158 dX12_judged_15 h (by decide)
theorem eX12_judged_158 : am_lim call mX12_judged 158 [l0, l1] (S) σ = am_lim call mX12_judged 159 [l0, l1] (.int (-1) :: S) σ := r_iconst dX12_judged_158 (by decide)
theorem eX12_judged_159 : am_lim call mX12_judged 159 [l0, l1] ([.int x]) σ = some (some (.int x), σ) := r_retI dX12_judged_159 rfl
theorem eX12_judged_138 : am_lim call mX12_judged 138 [some (.ref a), l1] (S) σ = am_lim call mX12_judged 139 [some (.ref a), l1] (.ref a :: S) σ := r_aload_n dX12_judged_138 rfl
theorem eX12_judged_139 (h : g_o σ b 12) : am_lim call mX12_judged 139 [l0, l1] (.ref b :: []) σ = am_k (call mX12_hasType [.ref b] σ) (fun r σ1 => am_lim call mX12_judged 142 [l0, l1] (r.toList ++ []) σ1) := r_kV (S1 := []) dX12_judged_139 mt_12_478 rfl h (Nat.le_of_ble_eq_true rfl)
theorem eX12_judged_142 : am_lim call mX12_judged 142 [l0, l1] (.int x :: S) σ = if x = 0 then am_lim call mX12_judged 156 [l0, l1] (S) σ else am_lim call mX12_judged 145 [l0, l1] (S) σ := r_ifB 156 dX12_judged_142 (by decide) rfl
theorem eX12_judged_145 : am_lim call mX12_judged 145 [some (.ref a), l1] (S) σ = am_lim call mX12_judged 146 [some (.ref a), l1] (.ref a :: S) σ := r_aload_n dX12_judged_145 rfl
theorem eX12_judged_146 : am_lim call mX12_judged 146 [some (.ref a), l1] (S) σ = am_lim call mX12_judged 147 [some (.ref a), l1] (.ref a :: S) σ := r_aload_n dX12_judged_146 rfl
theorem eX12_judged_147 (h : g_o σ a 12) : am_lim call mX12_judged 147 [l0, l1] (.ref a :: S) σ = am_lim call mX12_judged 150 [l0, l1] (.int (g_I σ a 41) :: S) σ := r_getI dX12_judged_147 f_12_51 rfl h
theorem eX12_judged_150 (h : g_o σ b 12) : am_lim call mX12_judged 150 [l0, l1] (.int v0 :: .ref b :: []) σ = am_k (call mX12_rank [.ref b, .int v0] σ) (fun r σ1 => am_lim call mX12_judged 153 [l0, l1] (r.toList ++ []) σ1) := r_kV (S1 := [.int v0]) dX12_judged_150 mt_12_234 rfl h (Nat.le_of_ble_eq_true rfl)
theorem eX12_judged_153 : am_lim call mX12_judged 153 [l0, l1] (S) σ = am_lim call mX12_judged 157 [l0, l1] (S) σ := r_goto 157 dX12_judged_153 (by decide)
theorem eX12_judged_157 : am_lim call mX12_judged 157 [l0, l1] ([.int x]) σ = some (some (.int x), σ) := r_retI dX12_judged_157 rfl
theorem eX12_judged_156 : am_lim call mX12_judged 156 [l0, l1] (S) σ = am_lim call mX12_judged 157 [l0, l1] (.int (-1) :: S) σ := r_iconst dX12_judged_156 (by decide)
theorem eX12_judged_118 : am_lim call mX12_judged 118 [some (.ref a), l1] (S) σ = am_lim call mX12_judged 119 [some (.ref a), l1] (.ref a :: S) σ := r_aload_n dX12_judged_118 rfl
theorem eX12_judged_119 (h : g_o σ b 12) : am_lim call mX12_judged 119 [l0, l1] (.ref b :: []) σ = am_k (call mX12_hasType [.ref b] σ) (fun r σ1 => am_lim call mX12_judged 122 [l0, l1] (r.toList ++ []) σ1) := r_kV (S1 := []) dX12_judged_119 mt_12_478 rfl h (Nat.le_of_ble_eq_true rfl)
theorem eX12_judged_122 : am_lim call mX12_judged 122 [l0, l1] (.int x :: S) σ = if x = 0 then am_lim call mX12_judged 136 [l0, l1] (S) σ else am_lim call mX12_judged 125 [l0, l1] (S) σ := r_ifB 136 dX12_judged_122 (by decide) rfl
theorem eX12_judged_125 : am_lim call mX12_judged 125 [some (.ref a), l1] (S) σ = am_lim call mX12_judged 126 [some (.ref a), l1] (.ref a :: S) σ := r_aload_n dX12_judged_125 rfl
theorem eX12_judged_126 : am_lim call mX12_judged 126 [some (.ref a), l1] (S) σ = am_lim call mX12_judged 127 [some (.ref a), l1] (.ref a :: S) σ := r_aload_n dX12_judged_126 rfl
theorem eX12_judged_127 (h : g_o σ a 12) : am_lim call mX12_judged 127 [l0, l1] (.ref a :: S) σ = am_lim call mX12_judged 130 [l0, l1] (.int (g_I σ a 41) :: S) σ := r_getI dX12_judged_127 f_12_51 rfl h
theorem eX12_judged_130 (h : g_o σ b 12) : am_lim call mX12_judged 130 [l0, l1] (.int v0 :: .ref b :: []) σ = am_k (call mX12_openOf [.ref b, .int v0] σ) (fun r σ1 => am_lim call mX12_judged 133 [l0, l1] (r.toList ++ []) σ1) := r_kV (S1 := [.int v0]) dX12_judged_130 mt_12_485 rfl h (Nat.le_of_ble_eq_true rfl)
theorem eX12_judged_133 : am_lim call mX12_judged 133 [l0, l1] (S) σ = am_lim call mX12_judged 137 [l0, l1] (S) σ := r_goto 137 dX12_judged_133 (by decide)
theorem eX12_judged_137 : am_lim call mX12_judged 137 [l0, l1] ([.int x]) σ = some (some (.int x), σ) := r_retI dX12_judged_137 rfl
theorem eX12_judged_136 : am_lim call mX12_judged 136 [l0, l1] (S) σ = am_lim call mX12_judged 137 [l0, l1] (.int 0 :: S) σ := r_iconst dX12_judged_136 (by decide)
theorem eX12_judged_94 : am_lim call mX12_judged 94 [some (.ref a), l1] (S) σ = am_lim call mX12_judged 95 [some (.ref a), l1] (.ref a :: S) σ := r_aload_n dX12_judged_94 rfl
theorem eX12_judged_95 (h : g_o σ a 12) : am_lim call mX12_judged 95 [l0, l1] (.ref a :: S) σ = am_lim call mX12_judged 98 [l0, l1] (.int (g_I σ a 40) :: S) σ := r_getI dX12_judged_95 f_12_428 rfl h
theorem eX12_judged_98 : am_lim call mX12_judged 98 [l0, l1] (S) σ = am_lim call mX12_judged 99 [l0, l1] (.int 1 :: S) σ := r_iconst dX12_judged_98 (by decide)
theorem eX12_judged_99 : am_lim call mX12_judged 99 [l0, l1] (.int y :: .int x :: S) σ = if x ≠ y then am_lim call mX12_judged 116 [l0, l1] (S) σ else am_lim call mX12_judged 102 [l0, l1] (S) σ := r_icmpB 116 dX12_judged_99 (by decide) rfl
theorem eX12_judged_102 : am_lim call mX12_judged 102 [some (.ref a), l1] (S) σ = am_lim call mX12_judged 103 [some (.ref a), l1] (.ref a :: S) σ := r_aload_n dX12_judged_102 rfl
theorem eX12_judged_103 (h : g_o σ a 12) : am_lim call mX12_judged 103 [l0, l1] (.ref a :: S) σ = am_lim call mX12_judged 106 [l0, l1] (.int (g_I σ a 37) :: S) σ := r_getI dX12_judged_103 f_12_447 rfl h
theorem eX12_judged_106 : am_lim call mX12_judged 106 [l0, l1] (.int x :: S) σ = if x = 0 then am_lim call mX12_judged 116 [l0, l1] (S) σ else am_lim call mX12_judged 109 [l0, l1] (S) σ := r_ifB 116 dX12_judged_106 (by decide) rfl
theorem eX12_judged_109 : am_lim call mX12_judged 109 [some (.ref a), l1] (S) σ = am_lim call mX12_judged 110 [some (.ref a), l1] (.ref a :: S) σ := r_aload_n dX12_judged_109 rfl
theorem eX12_judged_110 (h : g_o σ a 12) : am_lim call mX12_judged 110 [l0, l1] (.ref a :: S) σ = am_lim call mX12_judged 113 [l0, l1] (.int (g_I σ a 28) :: S) σ := r_getI dX12_judged_110 f_12_291 rfl h
theorem eX12_judged_113 : am_lim call mX12_judged 113 [l0, l1] (S) σ = am_lim call mX12_judged 117 [l0, l1] (S) σ := r_goto 117 dX12_judged_113 (by decide)
theorem eX12_judged_117 : am_lim call mX12_judged 117 [l0, l1] ([.int x]) σ = some (some (.int x), σ) := r_retI dX12_judged_117 rfl
theorem eX12_judged_116 : am_lim call mX12_judged 116 [l0, l1] (S) σ = am_lim call mX12_judged 117 [l0, l1] (.int (-1) :: S) σ := r_iconst dX12_judged_116 (by decide)
theorem eX12_judged_89 : am_lim call mX12_judged 89 [some (.ref a), l1] (S) σ = am_lim call mX12_judged 90 [some (.ref a), l1] (.ref a :: S) σ := r_aload_n dX12_judged_89 rfl
theorem eX12_judged_90 (h : g_o σ a 12) : am_lim call mX12_judged 90 [l0, l1] (.ref a :: S) σ = am_lim call mX12_judged 93 [l0, l1] (.int (g_I σ a 27) :: S) σ := r_getI dX12_judged_90 f_12_288 rfl h
theorem eX12_judged_93 : am_lim call mX12_judged 93 [l0, l1] ([.int x]) σ = some (some (.int x), σ) := r_retI dX12_judged_93 rfl
theorem eX12_judged_84 : am_lim call mX12_judged 84 [some (.ref a), l1] (S) σ = am_lim call mX12_judged 85 [some (.ref a), l1] (.ref a :: S) σ := r_aload_n dX12_judged_84 rfl
theorem eX12_judged_85 (h : g_o σ a 12) : am_lim call mX12_judged 85 [l0, l1] (.ref a :: S) σ = am_lim call mX12_judged 88 [l0, l1] (.int (g_I σ a 21) :: S) σ := r_getI dX12_judged_85 f_12_249 rfl h
theorem eX12_judged_88 : am_lim call mX12_judged 88 [l0, l1] ([.int x]) σ = some (some (.int x), σ) := r_retI dX12_judged_88 rfl
theorem eX12_judged_79 : am_lim call mX12_judged 79 [some (.ref a), l1] (S) σ = am_lim call mX12_judged 80 [some (.ref a), l1] (.ref a :: S) σ := r_aload_n dX12_judged_79 rfl
theorem eX12_judged_80 (h : g_o σ a 12) : am_lim call mX12_judged 80 [l0, l1] (.ref a :: S) σ = am_lim call mX12_judged 83 [l0, l1] (.int (g_I σ a 23) :: S) σ := r_getI dX12_judged_80 f_12_258 rfl h
theorem eX12_judged_83 : am_lim call mX12_judged 83 [l0, l1] ([.int x]) σ = some (some (.int x), σ) := r_retI dX12_judged_83 rfl
theorem eX12_judged_74 : am_lim call mX12_judged 74 [some (.ref a), l1] (S) σ = am_lim call mX12_judged 75 [some (.ref a), l1] (.ref a :: S) σ := r_aload_n dX12_judged_74 rfl
theorem eX12_judged_75 (h : g_o σ a 12) : am_lim call mX12_judged 75 [l0, l1] (.ref a :: S) σ = am_lim call mX12_judged 78 [l0, l1] (.int (g_I σ a 22) :: S) σ := r_getI dX12_judged_75 f_12_252 rfl h
theorem eX12_judged_78 : am_lim call mX12_judged 78 [l0, l1] ([.int x]) σ = some (some (.int x), σ) := r_retI dX12_judged_78 rfl
theorem eX12_judged_69 : am_lim call mX12_judged 69 [some (.ref a), l1] (S) σ = am_lim call mX12_judged 70 [some (.ref a), l1] (.ref a :: S) σ := r_aload_n dX12_judged_69 rfl
theorem eX12_judged_70 (h : g_o σ a 12) : am_lim call mX12_judged 70 [l0, l1] (.ref a :: S) σ = am_lim call mX12_judged 73 [l0, l1] (.int (g_I σ a 25) :: S) σ := r_getI dX12_judged_70 f_12_273 rfl h
theorem eX12_judged_73 : am_lim call mX12_judged 73 [l0, l1] ([.int x]) σ = some (some (.int x), σ) := r_retI dX12_judged_73 rfl
theorem eX12_judged_64 : am_lim call mX12_judged 64 [some (.ref a), l1] (S) σ = am_lim call mX12_judged 65 [some (.ref a), l1] (.ref a :: S) σ := r_aload_n dX12_judged_64 rfl
theorem eX12_judged_65 (h : g_o σ a 12) : am_lim call mX12_judged 65 [l0, l1] (.ref a :: S) σ = am_lim call mX12_judged 68 [l0, l1] (.int (g_I σ a 40) :: S) σ := r_getI dX12_judged_65 f_12_428 rfl h
theorem eX12_judged_68 : am_lim call mX12_judged 68 [l0, l1] ([.int x]) σ = some (some (.int x), σ) := r_retI dX12_judged_68 rfl
theorem nX12_judged {d : Nat} : am_run (d + 1) mX12_judged [.ref b, .int v0] σ = am_lim (am_run d) mX12_judged 0 [some (.ref b), some (.int v0)] [] σ := am_run_S rfl rfl rfl rfl
theorem dX11_drops_0 : decode cX11_drops 0 = .ok (.aload_n 0, 1) := by decide +kernel
theorem dX11_drops_1 : decode cX11_drops 1 = .ok (.getfield 22, 3) := by decide +kernel
theorem dX11_drops_4 : decode cX11_drops 4 = .ok (.getfield 214, 3) := by decide +kernel
theorem dX11_drops_7 : decode cX11_drops 7 = .ok (.ifCond .ne 5, 3) := by decide +kernel
theorem dX11_drops_10 : decode cX11_drops 10 = .ok (.iconst (-1), 1) := by decide +kernel
theorem dX11_drops_11 : decode cX11_drops 11 = .ok (.ireturn, 1) := by decide +kernel
theorem dX11_drops_12 : decode cX11_drops 12 = .ok (.aload_n 0, 1) := by decide +kernel
theorem dX11_drops_13 : decode cX11_drops 13 = .ok (.getfield 22, 3) := by decide +kernel
theorem dX11_drops_16 : decode cX11_drops 16 = .ok (.dup, 1) := by decide +kernel
theorem dX11_drops_17 : decode cX11_drops 17 = .ok (.getfield 214, 3) := by decide +kernel
theorem dX11_drops_20 : decode cX11_drops 20 = .ok (.iconst 1, 1) := by decide +kernel
theorem dX11_drops_21 : decode cX11_drops 21 = .ok (.isub, 1) := by decide +kernel
theorem dX11_drops_22 : decode cX11_drops 22 = .ok (.putfield 214, 3) := by decide +kernel
theorem dX11_drops_25 : decode cX11_drops 25 = .ok (.aload_n 0, 1) := by decide +kernel
theorem dX11_drops_26 : decode cX11_drops 26 = .ok (.getfield 22, 3) := by decide +kernel
theorem dX11_drops_29 : decode cX11_drops 29 = .ok (.getfield 214, 3) := by decide +kernel
theorem dX11_drops_32 : decode cX11_drops 32 = .ok (.ireturn, 1) := by decide +kernel
theorem eX11_drops_0 : am_lim call mX11_drops 0 [some (.ref a)] (S) σ = am_lim call mX11_drops 1 [some (.ref a)] (.ref a :: S) σ := r_aload_n dX11_drops_0 rfl
theorem eX11_drops_1 (h : g_o σ a 11) : am_lim call mX11_drops 1 [l0] (.ref a :: S) σ = am_lim call mX11_drops 4 [l0] (va_rf (g_R σ a 1) :: S) σ := r_getR dX11_drops_1 f_11_22 rfl h
theorem eX11_drops_4 (h : g_o σ a 5) : am_lim call mX11_drops 4 [l0] (.ref a :: S) σ = am_lim call mX11_drops 7 [l0] (.int (g_I σ a 0) :: S) σ := r_getI dX11_drops_4 f_11_214 rfl h
theorem eX11_drops_7 : am_lim call mX11_drops 7 [l0] (.int x :: S) σ = if x ≠ 0 then am_lim call mX11_drops 12 [l0] (S) σ else am_lim call mX11_drops 10 [l0] (S) σ := r_ifB 12 dX11_drops_7 (by decide) rfl
theorem eX11_drops_10 : am_lim call mX11_drops 10 [l0] (S) σ = am_lim call mX11_drops 11 [l0] (.int (-1) :: S) σ := r_iconst dX11_drops_10 (by decide)
theorem eX11_drops_11 : am_lim call mX11_drops 11 [l0] ([.int x]) σ = some (some (.int x), σ) := r_retI dX11_drops_11 rfl
theorem eX11_drops_12 : am_lim call mX11_drops 12 [some (.ref a)] (S) σ = am_lim call mX11_drops 13 [some (.ref a)] (.ref a :: S) σ := r_aload_n dX11_drops_12 rfl
theorem eX11_drops_13 (h : g_o σ a 11) : am_lim call mX11_drops 13 [l0] (.ref a :: S) σ = am_lim call mX11_drops 16 [l0] (va_rf (g_R σ a 1) :: S) σ := r_getR dX11_drops_13 f_11_22 rfl h
theorem eX11_drops_16 : am_lim call mX11_drops 16 [l0] (.ref a :: S) σ = am_lim call mX11_drops 17 [l0] (.ref a :: .ref a :: S) σ := r_dupA dX11_drops_16
theorem eX11_drops_17 (h : g_o σ a 5) : am_lim call mX11_drops 17 [l0] (.ref a :: S) σ = am_lim call mX11_drops 20 [l0] (.int (g_I σ a 0) :: S) σ := r_getI dX11_drops_17 f_11_214 rfl h
theorem eX11_drops_20 : am_lim call mX11_drops 20 [l0] (S) σ = am_lim call mX11_drops 21 [l0] (.int 1 :: S) σ := r_iconst dX11_drops_20 (by decide)
theorem eX11_drops_21 : am_lim call mX11_drops 21 [l0] (.int y :: .int x :: S) σ = am_lim call mX11_drops 22 [l0] (.int (x - y) :: S) σ := r_isub dX11_drops_21
theorem eX11_drops_22 (h : g_o σ a 5) : am_lim call mX11_drops 22 [l0] (.int x :: .ref a :: S) σ = am_lim call mX11_drops 25 [l0] (S) (am_sI σ a 0 x) := r_putI dX11_drops_22 f_11_214 rfl rfl h
theorem eX11_drops_25 : am_lim call mX11_drops 25 [some (.ref a)] (S) σ = am_lim call mX11_drops 26 [some (.ref a)] (.ref a :: S) σ := r_aload_n dX11_drops_25 rfl
theorem eX11_drops_26 (h : g_o σ a 11) : am_lim call mX11_drops 26 [l0] (.ref a :: S) σ = am_lim call mX11_drops 29 [l0] (va_rf (g_R σ a 1) :: S) σ := r_getR dX11_drops_26 f_11_22 rfl h
theorem eX11_drops_29 (h : g_o σ a 5) : am_lim call mX11_drops 29 [l0] (.ref a :: S) σ = am_lim call mX11_drops 32 [l0] (.int (g_I σ a 0) :: S) σ := r_getI dX11_drops_29 f_11_214 rfl h
theorem eX11_drops_32 : am_lim call mX11_drops 32 [l0] ([.int x]) σ = some (some (.int x), σ) := r_retI dX11_drops_32 rfl
theorem nX11_drops {d : Nat} : am_run (d + 1) mX11_drops [.ref b] σ = am_lim (am_run d) mX11_drops 0 [some (.ref b)] [] σ := am_run_S rfl rfl rfl rfl
theorem dX12_drops_0 : decode cX12_drops 0 = .ok (.aload_n 0, 1) := by decide +kernel
theorem dX12_drops_1 : decode cX12_drops 1 = .ok (.iconst 0, 1) := by decide +kernel
theorem dX12_drops_2 : decode cX12_drops 2 = .ok (.putfield 113, 3) := by decide +kernel
theorem dX12_drops_5 : decode cX12_drops 5 = .ok (.aload_n 0, 1) := by decide +kernel
theorem dX12_drops_6 : decode cX12_drops 6 = .ok (.getfield 414, 3) := by decide +kernel
theorem dX12_drops_9 : decode cX12_drops 9 = .ok (.ifCond .ne 5, 3) := by decide +kernel
theorem dX12_drops_12 : decode cX12_drops 12 = .ok (.iconst (-1), 1) := by decide +kernel
theorem dX12_drops_13 : decode cX12_drops 13 = .ok (.ireturn, 1) := by decide +kernel
theorem dX12_drops_14 : decode cX12_drops 14 = .ok (.aload_n 0, 1) := by decide +kernel
theorem dX12_drops_15 : decode cX12_drops 15 = .ok (.dup, 1) := by decide +kernel
theorem dX12_drops_16 : decode cX12_drops 16 = .ok (.getfield 414, 3) := by decide +kernel
theorem dX12_drops_19 : decode cX12_drops 19 = .ok (.iconst 1, 1) := by decide +kernel
theorem dX12_drops_20 : decode cX12_drops 20 = .ok (.isub, 1) := by decide +kernel
theorem dX12_drops_21 : decode cX12_drops 21 = .ok (.putfield 414, 3) := by decide +kernel
theorem dX12_drops_24 : decode cX12_drops 24 = .ok (.aload_n 0, 1) := by decide +kernel
theorem dX12_drops_25 : decode cX12_drops 25 = .ok (.getfield 414, 3) := by decide +kernel
theorem dX12_drops_28 : decode cX12_drops 28 = .ok (.ireturn, 1) := by decide +kernel
theorem eX12_drops_0 : am_lim call mX12_drops 0 [some (.ref a)] (S) σ = am_lim call mX12_drops 1 [some (.ref a)] (.ref a :: S) σ := r_aload_n dX12_drops_0 rfl
theorem eX12_drops_1 : am_lim call mX12_drops 1 [l0] (S) σ = am_lim call mX12_drops 2 [l0] (.int 0 :: S) σ := r_iconst dX12_drops_1 (by decide)
theorem eX12_drops_2 (h : g_o σ a 12) : am_lim call mX12_drops 2 [l0] (.int x :: .ref a :: S) σ = am_lim call mX12_drops 5 [l0] (S) (am_sI σ a 0 x) := r_putI dX12_drops_2 f_12_113 rfl rfl h
theorem eX12_drops_5 : am_lim call mX12_drops 5 [some (.ref a)] (S) σ = am_lim call mX12_drops 6 [some (.ref a)] (.ref a :: S) σ := r_aload_n dX12_drops_5 rfl
theorem eX12_drops_6 (h : g_o σ a 12) : am_lim call mX12_drops 6 [l0] (.ref a :: S) σ = am_lim call mX12_drops 9 [l0] (.int (g_I σ a 43) :: S) σ := r_getI dX12_drops_6 f_12_414 rfl h
theorem eX12_drops_9 : am_lim call mX12_drops 9 [l0] (.int x :: S) σ = if x ≠ 0 then am_lim call mX12_drops 14 [l0] (S) σ else am_lim call mX12_drops 12 [l0] (S) σ := r_ifB 14 dX12_drops_9 (by decide) rfl
theorem eX12_drops_12 : am_lim call mX12_drops 12 [l0] (S) σ = am_lim call mX12_drops 13 [l0] (.int (-1) :: S) σ := r_iconst dX12_drops_12 (by decide)
theorem eX12_drops_13 : am_lim call mX12_drops 13 [l0] ([.int x]) σ = some (some (.int x), σ) := r_retI dX12_drops_13 rfl
theorem eX12_drops_14 : am_lim call mX12_drops 14 [some (.ref a)] (S) σ = am_lim call mX12_drops 15 [some (.ref a)] (.ref a :: S) σ := r_aload_n dX12_drops_14 rfl
theorem eX12_drops_15 : am_lim call mX12_drops 15 [l0] (.ref a :: S) σ = am_lim call mX12_drops 16 [l0] (.ref a :: .ref a :: S) σ := r_dupA dX12_drops_15
theorem eX12_drops_16 (h : g_o σ a 12) : am_lim call mX12_drops 16 [l0] (.ref a :: S) σ = am_lim call mX12_drops 19 [l0] (.int (g_I σ a 43) :: S) σ := r_getI dX12_drops_16 f_12_414 rfl h
theorem eX12_drops_19 : am_lim call mX12_drops 19 [l0] (S) σ = am_lim call mX12_drops 20 [l0] (.int 1 :: S) σ := r_iconst dX12_drops_19 (by decide)
theorem eX12_drops_20 : am_lim call mX12_drops 20 [l0] (.int y :: .int x :: S) σ = am_lim call mX12_drops 21 [l0] (.int (x - y) :: S) σ := r_isub dX12_drops_20
theorem eX12_drops_21 (h : g_o σ a 12) : am_lim call mX12_drops 21 [l0] (.int x :: .ref a :: S) σ = am_lim call mX12_drops 24 [l0] (S) (am_sI σ a 43 x) := r_putI dX12_drops_21 f_12_414 rfl rfl h
theorem eX12_drops_24 : am_lim call mX12_drops 24 [some (.ref a)] (S) σ = am_lim call mX12_drops 25 [some (.ref a)] (.ref a :: S) σ := r_aload_n dX12_drops_24 rfl
theorem eX12_drops_25 (h : g_o σ a 12) : am_lim call mX12_drops 25 [l0] (.ref a :: S) σ = am_lim call mX12_drops 28 [l0] (.int (g_I σ a 43) :: S) σ := r_getI dX12_drops_25 f_12_414 rfl h
theorem eX12_drops_28 : am_lim call mX12_drops 28 [l0] ([.int x]) σ = some (some (.int x), σ) := r_retI dX12_drops_28 rfl
theorem nX12_drops {d : Nat} : am_run (d + 1) mX12_drops [.ref b] σ = am_lim (am_run d) mX12_drops 0 [some (.ref b)] [] σ := am_run_S rfl rfl rfl rfl
theorem dX11_type_0 : decode cX11_type 0 = .ok (.aload_n 0, 1) := by decide +kernel
theorem dX11_type_1 : decode cX11_type 1 = .ok (.getfield 29, 3) := by decide +kernel
theorem dX11_type_4 : decode cX11_type 4 = .ok (.getfield 134, 3) := by decide +kernel
theorem dX11_type_7 : decode cX11_type 7 = .ok (.astore_n 2, 1) := by decide +kernel
theorem dX11_type_8 : decode cX11_type 8 = .ok (.aload_n 2, 1) := by decide +kernel
theorem dX11_type_9 : decode cX11_type 9 = .ok (.getfield 162, 3) := by decide +kernel
theorem dX11_type_12 : decode cX11_type 12 = .ok (.ifCond .ne 7, 3) := by decide +kernel
theorem dX11_type_15 : decode cX11_type 15 = .ok (.iconst (-1), 1) := by decide +kernel
theorem dX11_type_16 : decode cX11_type 16 = .ok (.goto 20, 3) := by decide +kernel
theorem dX11_type_19 : decode cX11_type 19 = .ok (.aload_n 0, 1) := by decide +kernel
theorem dX11_type_20 : decode cX11_type 20 = .ok (.getfield 66, 3) := by decide +kernel
theorem dX11_type_23 : decode cX11_type 23 = .ok (.aload_n 2, 1) := by decide +kernel
theorem dX11_type_24 : decode cX11_type 24 = .ok (.getfield 165, 3) := by decide +kernel
theorem dX11_type_27 : decode cX11_type 27 = .ok (.iconst 0, 1) := by decide +kernel
theorem dX11_type_28 : decode cX11_type 28 = .ok (.aload_n 2, 1) := by decide +kernel
theorem dX11_type_29 : decode cX11_type 29 = .ok (.getfield 162, 3) := by decide +kernel
theorem dX11_type_32 : decode cX11_type 32 = .ok (.iload_n 1, 1) := by decide +kernel
theorem dX11_type_33 : decode cX11_type 33 = .ok (.invokevirtual 172, 3) := by decide +kernel
theorem dX11_type_36 : decode cX11_type 36 = .ok (.ireturn, 1) := by decide +kernel
theorem eX11_type_0 : am_lim call mX11_type 0 [some (.ref a), l1, l2] (S) σ = am_lim call mX11_type 1 [some (.ref a), l1, l2] (.ref a :: S) σ := r_aload_n dX11_type_0 rfl
theorem eX11_type_1 (h : g_o σ a 11) : am_lim call mX11_type 1 [l0, l1, l2] (.ref a :: S) σ = am_lim call mX11_type 4 [l0, l1, l2] (va_rf (g_R σ a 5) :: S) σ := r_getR dX11_type_1 f_11_29 rfl h
theorem eX11_type_4 (h : g_o σ a 2) : am_lim call mX11_type 4 [l0, l1, l2] (.ref a :: S) σ = am_lim call mX11_type 7 [l0, l1, l2] (va_rf (g_R σ a 2) :: S) σ := r_getR dX11_type_4 f_11_134 rfl h
theorem eX11_type_7 : am_lim call mX11_type 7 [l0, l1, l2] (.ref a :: S) σ = am_lim call mX11_type 8 [l0, l1, some (.ref a)] (S) σ := r_astore_n dX11_type_7 rfl rfl rfl rfl
theorem eX11_type_8 : am_lim call mX11_type 8 [l0, l1, some (.ref a)] (S) σ = am_lim call mX11_type 9 [l0, l1, some (.ref a)] (.ref a :: S) σ := r_aload_n dX11_type_8 rfl
theorem eX11_type_9 (h : g_o σ a 4) : am_lim call mX11_type 9 [l0, l1, l2] (.ref a :: S) σ = am_lim call mX11_type 12 [l0, l1, l2] (.int (g_I σ a 1) :: S) σ := r_getI dX11_type_9 f_11_162 rfl h
theorem eX11_type_12 : am_lim call mX11_type 12 [l0, l1, l2] (.int x :: S) σ = if x ≠ 0 then am_lim call mX11_type 19 [l0, l1, l2] (S) σ else am_lim call mX11_type 15 [l0, l1, l2] (S) σ := r_ifB 19 dX11_type_12 (by decide) rfl
theorem eX11_type_15 : am_lim call mX11_type 15 [l0, l1, l2] (S) σ = am_lim call mX11_type 16 [l0, l1, l2] (.int (-1) :: S) σ := r_iconst dX11_type_15 (by decide)
theorem eX11_type_16 : am_lim call mX11_type 16 [l0, l1, l2] (S) σ = am_lim call mX11_type 36 [l0, l1, l2] (S) σ := r_goto 36 dX11_type_16 (by decide)
theorem eX11_type_36 : am_lim call mX11_type 36 [l0, l1, l2] ([.int x]) σ = some (some (.int x), σ) := r_retI dX11_type_36 rfl
theorem eX11_type_19 : am_lim call mX11_type 19 [some (.ref a), l1, l2] (S) σ = am_lim call mX11_type 20 [some (.ref a), l1, l2] (.ref a :: S) σ := r_aload_n dX11_type_19 rfl
theorem eX11_type_20 (h : g_o σ a 11) : am_lim call mX11_type 20 [l0, l1, l2] (.ref a :: S) σ = am_lim call mX11_type 23 [l0, l1, l2] (va_rf (g_R σ a 4) :: S) σ := r_getR dX11_type_20 f_11_66 rfl h
theorem eX11_type_23 : am_lim call mX11_type 23 [l0, l1, some (.ref a)] (S) σ = am_lim call mX11_type 24 [l0, l1, some (.ref a)] (.ref a :: S) σ := r_aload_n dX11_type_23 rfl
theorem eX11_type_24 (h : g_o σ a 4) : am_lim call mX11_type 24 [l0, l1, l2] (.ref a :: S) σ = am_lim call mX11_type 27 [l0, l1, l2] (va_rf (g_R σ a 0) :: S) σ := r_getR dX11_type_24 f_11_165 rfl h
theorem eX11_type_27 : am_lim call mX11_type 27 [l0, l1, l2] (S) σ = am_lim call mX11_type 28 [l0, l1, l2] (.int 0 :: S) σ := r_iconst dX11_type_27 (by decide)
theorem eX11_type_28 : am_lim call mX11_type 28 [l0, l1, some (.ref a)] (S) σ = am_lim call mX11_type 29 [l0, l1, some (.ref a)] (.ref a :: S) σ := r_aload_n dX11_type_28 rfl
theorem eX11_type_29 (h : g_o σ a 4) : am_lim call mX11_type 29 [l0, l1, l2] (.ref a :: S) σ = am_lim call mX11_type 32 [l0, l1, l2] (.int (g_I σ a 1) :: S) σ := r_getI dX11_type_29 f_11_162 rfl h
theorem eX11_type_32 : am_lim call mX11_type 32 [l0, some (.int x), l2] (S) σ = am_lim call mX11_type 33 [l0, some (.int x), l2] (.int x :: S) σ := r_iload_n dX11_type_32 rfl
theorem eX11_type_33 (h : g_o σ b 6) : am_lim call mX11_type 33 [l0, l1, l2] (.int v3 :: .int v2 :: .int v1 :: .ref p0 :: .ref b :: []) σ = am_k (call mX6_told [.ref b, .ref p0, .int v1, .int v2, .int v3] σ) (fun r σ1 => am_lim call mX11_type 36 [l0, l1, l2] (r.toList ++ []) σ1) := r_kV (S1 := [.int v3, .int v2, .int v1, .ref p0]) dX11_type_33 mt_11_172 rfl h (Nat.le_of_ble_eq_true rfl)
theorem nX11_type {d : Nat} : am_run (d + 1) mX11_type [.ref b, .int v0] σ = am_lim (am_run d) mX11_type 0 [some (.ref b), some (.int v0), none] [] σ := am_run_S rfl rfl rfl rfl
theorem dX12_type_0 : decode cX12_type 0 = .ok (.aload_n 0, 1) := by decide +kernel
theorem dX12_type_1 : decode cX12_type 1 = .ok (.iconst 0, 1) := by decide +kernel
theorem dX12_type_2 : decode cX12_type 2 = .ok (.putfield 113, 3) := by decide +kernel
theorem dX12_type_5 : decode cX12_type 5 = .ok (.aload_n 0, 1) := by decide +kernel
theorem dX12_type_6 : decode cX12_type 6 = .ok (.invokevirtual 478, 3) := by decide +kernel
theorem dX12_type_9 : decode cX12_type 9 = .ok (.ifCond .eq 15, 3) := by decide +kernel
theorem dX12_type_12 : decode cX12_type 12 = .ok (.aload_n 0, 1) := by decide +kernel
theorem dX12_type_13 : decode cX12_type 13 = .ok (.aload_n 0, 1) := by decide +kernel
theorem dX12_type_14 : decode cX12_type 14 = .ok (.getfield 51, 3) := by decide +kernel
theorem dX12_type_17 : decode cX12_type 17 = .ok (.iload_n 1, 1) := by decide +kernel
theorem dX12_type_18 : decode cX12_type 18 = .ok (.invokevirtual 482, 3) := by decide +kernel
theorem dX12_type_21 : decode cX12_type 21 = .ok (.goto 4, 3) := by decide +kernel
theorem dX12_type_24 : decode cX12_type 24 = .ok (.iconst (-1), 1) := by decide +kernel
theorem dX12_type_25 : decode cX12_type 25 = .ok (.ireturn, 1) := by decide +kernel
theorem eX12_type_0 : am_lim call mX12_type 0 [some (.ref a), l1] (S) σ = am_lim call mX12_type 1 [some (.ref a), l1] (.ref a :: S) σ := r_aload_n dX12_type_0 rfl
theorem eX12_type_1 : am_lim call mX12_type 1 [l0, l1] (S) σ = am_lim call mX12_type 2 [l0, l1] (.int 0 :: S) σ := r_iconst dX12_type_1 (by decide)
theorem eX12_type_2 (h : g_o σ a 12) : am_lim call mX12_type 2 [l0, l1] (.int x :: .ref a :: S) σ = am_lim call mX12_type 5 [l0, l1] (S) (am_sI σ a 0 x) := r_putI dX12_type_2 f_12_113 rfl rfl h
theorem eX12_type_5 : am_lim call mX12_type 5 [some (.ref a), l1] (S) σ = am_lim call mX12_type 6 [some (.ref a), l1] (.ref a :: S) σ := r_aload_n dX12_type_5 rfl
theorem eX12_type_6 (h : g_o σ b 12) : am_lim call mX12_type 6 [l0, l1] (.ref b :: []) σ = am_k (call mX12_hasType [.ref b] σ) (fun r σ1 => am_lim call mX12_type 9 [l0, l1] (r.toList ++ []) σ1) := r_kV (S1 := []) dX12_type_6 mt_12_478 rfl h (Nat.le_of_ble_eq_true rfl)
theorem eX12_type_9 : am_lim call mX12_type 9 [l0, l1] (.int x :: S) σ = if x = 0 then am_lim call mX12_type 24 [l0, l1] (S) σ else am_lim call mX12_type 12 [l0, l1] (S) σ := r_ifB 24 dX12_type_9 (by decide) rfl
theorem eX12_type_12 : am_lim call mX12_type 12 [some (.ref a), l1] (S) σ = am_lim call mX12_type 13 [some (.ref a), l1] (.ref a :: S) σ := r_aload_n dX12_type_12 rfl
theorem eX12_type_13 : am_lim call mX12_type 13 [some (.ref a), l1] (S) σ = am_lim call mX12_type 14 [some (.ref a), l1] (.ref a :: S) σ := r_aload_n dX12_type_13 rfl
theorem eX12_type_14 (h : g_o σ a 12) : am_lim call mX12_type 14 [l0, l1] (.ref a :: S) σ = am_lim call mX12_type 17 [l0, l1] (.int (g_I σ a 41) :: S) σ := r_getI dX12_type_14 f_12_51 rfl h
theorem eX12_type_17 : am_lim call mX12_type 17 [l0, some (.int x)] (S) σ = am_lim call mX12_type 18 [l0, some (.int x)] (.int x :: S) σ := r_iload_n dX12_type_17 rfl
theorem eX12_type_18 (h : g_o σ b 12) : am_lim call mX12_type 18 [l0, l1] (.int v1 :: .int v0 :: .ref b :: []) σ = am_k (call mX12_tellsType [.ref b, .int v0, .int v1] σ) (fun r σ1 => am_lim call mX12_type 21 [l0, l1] (r.toList ++ []) σ1) := r_kV (S1 := [.int v1, .int v0]) dX12_type_18 mt_12_482 rfl h (Nat.le_of_ble_eq_true rfl)
theorem eX12_type_21 : am_lim call mX12_type 21 [l0, l1] (S) σ = am_lim call mX12_type 25 [l0, l1] (S) σ := r_goto 25 dX12_type_21 (by decide)
theorem eX12_type_25 : am_lim call mX12_type 25 [l0, l1] ([.int x]) σ = some (some (.int x), σ) := r_retI dX12_type_25 rfl
theorem eX12_type_24 : am_lim call mX12_type 24 [l0, l1] (S) σ = am_lim call mX12_type 25 [l0, l1] (.int (-1) :: S) σ := r_iconst dX12_type_24 (by decide)
theorem nX12_type {d : Nat} : am_run (d + 1) mX12_type [.ref b, .int v0] σ = am_lim (am_run d) mX12_type 0 [some (.ref b), some (.int v0)] [] σ := am_run_S rfl rfl rfl rfl
theorem dX12_hasType_0 : decode cX12_hasType 0 = .ok (.aload_n 0, 1) := by decide +kernel
theorem dX12_hasType_1 : decode cX12_hasType 1 = .ok (.getfield 431, 3) := by decide +kernel
theorem dX12_hasType_4 : decode cX12_hasType 4 = .ok (.ifCond .eq 21, 3) := by decide +kernel
theorem dX12_hasType_7 : decode cX12_hasType 7 = .ok (.aload_n 0, 1) := by decide +kernel
theorem dX12_hasType_8 : decode cX12_hasType 8 = .ok (.getfield 447, 3) := by decide +kernel
theorem dX12_hasType_11 : decode cX12_hasType 11 = .ok (.ifCond .eq 14, 3) := by decide +kernel
theorem dX12_hasType_14 : decode cX12_hasType 14 = .ok (.aload_n 0, 1) := by decide +kernel
theorem dX12_hasType_15 : decode cX12_hasType 15 = .ok (.getfield 428, 3) := by decide +kernel
theorem dX12_hasType_18 : decode cX12_hasType 18 = .ok (.ifCond .ne 7, 3) := by decide +kernel
theorem dX12_hasType_21 : decode cX12_hasType 21 = .ok (.iconst 1, 1) := by decide +kernel
theorem dX12_hasType_22 : decode cX12_hasType 22 = .ok (.goto 4, 3) := by decide +kernel
theorem dX12_hasType_25 : decode cX12_hasType 25 = .ok (.iconst 0, 1) := by decide +kernel
theorem dX12_hasType_26 : decode cX12_hasType 26 = .ok (.ireturn, 1) := by decide +kernel
theorem eX12_hasType_0 : am_lim call mX12_hasType 0 [some (.ref a)] (S) σ = am_lim call mX12_hasType 1 [some (.ref a)] (.ref a :: S) σ := r_aload_n dX12_hasType_0 rfl
theorem eX12_hasType_1 (h : g_o σ a 12) : am_lim call mX12_hasType 1 [l0] (.ref a :: S) σ = am_lim call mX12_hasType 4 [l0] (.int (g_I σ a 36) :: S) σ := r_getI dX12_hasType_1 f_12_431 rfl h
theorem eX12_hasType_4 : am_lim call mX12_hasType 4 [l0] (.int x :: S) σ = if x = 0 then am_lim call mX12_hasType 25 [l0] (S) σ else am_lim call mX12_hasType 7 [l0] (S) σ := r_ifB 25 dX12_hasType_4 (by decide) rfl
theorem eX12_hasType_7 : am_lim call mX12_hasType 7 [some (.ref a)] (S) σ = am_lim call mX12_hasType 8 [some (.ref a)] (.ref a :: S) σ := r_aload_n dX12_hasType_7 rfl
theorem eX12_hasType_8 (h : g_o σ a 12) : am_lim call mX12_hasType 8 [l0] (.ref a :: S) σ = am_lim call mX12_hasType 11 [l0] (.int (g_I σ a 37) :: S) σ := r_getI dX12_hasType_8 f_12_447 rfl h
theorem eX12_hasType_11 : am_lim call mX12_hasType 11 [l0] (.int x :: S) σ = if x = 0 then am_lim call mX12_hasType 25 [l0] (S) σ else am_lim call mX12_hasType 14 [l0] (S) σ := r_ifB 25 dX12_hasType_11 (by decide) rfl
theorem eX12_hasType_14 : am_lim call mX12_hasType 14 [some (.ref a)] (S) σ = am_lim call mX12_hasType 15 [some (.ref a)] (.ref a :: S) σ := r_aload_n dX12_hasType_14 rfl
theorem eX12_hasType_15 (h : g_o σ a 12) : am_lim call mX12_hasType 15 [l0] (.ref a :: S) σ = am_lim call mX12_hasType 18 [l0] (.int (g_I σ a 40) :: S) σ := r_getI dX12_hasType_15 f_12_428 rfl h
theorem eX12_hasType_18 : am_lim call mX12_hasType 18 [l0] (.int x :: S) σ = if x ≠ 0 then am_lim call mX12_hasType 25 [l0] (S) σ else am_lim call mX12_hasType 21 [l0] (S) σ := r_ifB 25 dX12_hasType_18 (by decide) rfl
theorem eX12_hasType_21 : am_lim call mX12_hasType 21 [l0] (S) σ = am_lim call mX12_hasType 22 [l0] (.int 1 :: S) σ := r_iconst dX12_hasType_21 (by decide)
theorem eX12_hasType_22 : am_lim call mX12_hasType 22 [l0] (S) σ = am_lim call mX12_hasType 26 [l0] (S) σ := r_goto 26 dX12_hasType_22 (by decide)
theorem eX12_hasType_26 (hx : x = 0 ∨ x = 1) : am_lim call mX12_hasType 26 [l0] ([.int x]) σ = some (some (.int x), σ) := r_retZ dX12_hasType_26 rfl hx
theorem eX12_hasType_25 : am_lim call mX12_hasType 25 [l0] (S) σ = am_lim call mX12_hasType 26 [l0] (.int 0 :: S) σ := r_iconst dX12_hasType_25 (by decide)
theorem nX12_hasType {d : Nat} : am_run (d + 1) mX12_hasType [.ref b] σ = am_lim (am_run d) mX12_hasType 0 [some (.ref b)] [] σ := am_run_S rfl rfl rfl rfl
theorem dX11_byRule_0 : decode cX11_byRule 0 = .ok (.aload_n 0, 1) := by decide +kernel
theorem dX11_byRule_1 : decode cX11_byRule 1 = .ok (.getfield 29, 3) := by decide +kernel
theorem dX11_byRule_4 : decode cX11_byRule 4 = .ok (.getfield 131, 3) := by decide +kernel
theorem dX11_byRule_7 : decode cX11_byRule 7 = .ok (.iconst (-1), 1) := by decide +kernel
theorem dX11_byRule_8 : decode cX11_byRule 8 = .ok (.if_icmp .eq 14, 3) := by decide +kernel
theorem dX11_byRule_11 : decode cX11_byRule 11 = .ok (.iload_n 1, 1) := by decide +kernel
theorem dX11_byRule_12 : decode cX11_byRule 12 = .ok (.iconst 1, 1) := by decide +kernel
theorem dX11_byRule_13 : decode cX11_byRule 13 = .ok (.if_icmp .lt 9, 3) := by decide +kernel
theorem dX11_byRule_16 : decode cX11_byRule 16 = .ok (.iload_n 1, 1) := by decide +kernel
theorem dX11_byRule_17 : decode cX11_byRule 17 = .ok (.bipush 36, 2) := by decide +kernel
theorem dX11_byRule_19 : decode cX11_byRule 19 = .ok (.if_icmp .le 5, 3) := by decide +kernel
theorem dX11_byRule_22 : decode cX11_byRule 22 = .ok (.iconst (-1), 1) := by decide +kernel
theorem dX11_byRule_23 : decode cX11_byRule 23 = .ok (.ireturn, 1) := by decide +kernel
theorem dX11_byRule_24 : decode cX11_byRule 24 = .ok (.iconst 0, 1) := by decide +kernel
theorem dX11_byRule_25 : decode cX11_byRule 25 = .ok (.istore_n 2, 1) := by decide +kernel
theorem dX11_byRule_26 : decode cX11_byRule 26 = .ok (.iconst 0, 1) := by decide +kernel
theorem dX11_byRule_27 : decode cX11_byRule 27 = .ok (.istore_n 3, 1) := by decide +kernel
theorem dX11_byRule_28 : decode cX11_byRule 28 = .ok (.iload_n 3, 1) := by decide +kernel
theorem dX11_byRule_29 : decode cX11_byRule 29 = .ok (.aload_n 0, 1) := by decide +kernel
theorem dX11_byRule_30 : decode cX11_byRule 30 = .ok (.getfield 29, 3) := by decide +kernel
theorem dX11_byRule_33 : decode cX11_byRule 33 = .ok (.getfield 122, 3) := by decide +kernel
theorem dX11_byRule_36 : decode cX11_byRule 36 = .ok (.if_icmp .ge 28, 3) := by decide +kernel
theorem dX11_byRule_39 : decode cX11_byRule 39 = .ok (.aload_n 0, 1) := by decide +kernel
theorem dX11_byRule_40 : decode cX11_byRule 40 = .ok (.getfield 29, 3) := by decide +kernel
theorem dX11_byRule_43 : decode cX11_byRule 43 = .ok (.getfield 179, 3) := by decide +kernel
theorem dX11_byRule_46 : decode cX11_byRule 46 = .ok (.iload_n 3, 1) := by decide +kernel
theorem dX11_byRule_47 : decode cX11_byRule 47 = .ok (.bipush 6, 2) := by decide +kernel
theorem dX11_byRule_49 : decode cX11_byRule 49 = .ok (.imul, 1) := by decide +kernel
theorem dX11_byRule_50 : decode cX11_byRule 50 = .ok (.iaload, 1) := by decide +kernel
theorem dX11_byRule_51 : decode cX11_byRule 51 = .ok (.iload_n 1, 1) := by decide +kernel
theorem dX11_byRule_52 : decode cX11_byRule 52 = .ok (.if_icmp .ne 6, 3) := by decide +kernel
theorem dX11_byRule_55 : decode cX11_byRule 55 = .ok (.iinc 2 1, 3) := by decide +kernel
theorem dX11_byRule_58 : decode cX11_byRule 58 = .ok (.iinc 3 1, 3) := by decide +kernel
theorem dX11_byRule_61 : decode cX11_byRule 61 = .ok (.goto (-33), 3) := by decide +kernel
theorem dX11_byRule_64 : decode cX11_byRule 64 = .ok (.iload_n 2, 1) := by decide +kernel
theorem dX11_byRule_65 : decode cX11_byRule 65 = .ok (.ireturn, 1) := by decide +kernel
theorem eX11_byRule_0 : am_lim call mX11_byRule 0 [some (.ref a), l1, l2, l3] (S) σ = am_lim call mX11_byRule 1 [some (.ref a), l1, l2, l3] (.ref a :: S) σ := r_aload_n dX11_byRule_0 rfl
theorem eX11_byRule_1 (h : g_o σ a 11) : am_lim call mX11_byRule 1 [l0, l1, l2, l3] (.ref a :: S) σ = am_lim call mX11_byRule 4 [l0, l1, l2, l3] (va_rf (g_R σ a 5) :: S) σ := r_getR dX11_byRule_1 f_11_29 rfl h
theorem eX11_byRule_4 (h : g_o σ a 2) : am_lim call mX11_byRule 4 [l0, l1, l2, l3] (.ref a :: S) σ = am_lim call mX11_byRule 7 [l0, l1, l2, l3] (.int (g_I σ a 3) :: S) σ := r_getI dX11_byRule_4 f_11_131 rfl h
theorem eX11_byRule_7 : am_lim call mX11_byRule 7 [l0, l1, l2, l3] (S) σ = am_lim call mX11_byRule 8 [l0, l1, l2, l3] (.int (-1) :: S) σ := r_iconst dX11_byRule_7 (by decide)
theorem eX11_byRule_8 : am_lim call mX11_byRule 8 [l0, l1, l2, l3] (.int y :: .int x :: S) σ = if x = y then am_lim call mX11_byRule 22 [l0, l1, l2, l3] (S) σ else am_lim call mX11_byRule 11 [l0, l1, l2, l3] (S) σ := r_icmpB 22 dX11_byRule_8 (by decide) rfl
theorem eX11_byRule_11 : am_lim call mX11_byRule 11 [l0, some (.int x), l2, l3] (S) σ = am_lim call mX11_byRule 12 [l0, some (.int x), l2, l3] (.int x :: S) σ := r_iload_n dX11_byRule_11 rfl
theorem eX11_byRule_12 : am_lim call mX11_byRule 12 [l0, l1, l2, l3] (S) σ = am_lim call mX11_byRule 13 [l0, l1, l2, l3] (.int 1 :: S) σ := r_iconst dX11_byRule_12 (by decide)
theorem eX11_byRule_13 : am_lim call mX11_byRule 13 [l0, l1, l2, l3] (.int y :: .int x :: S) σ = if x < y then am_lim call mX11_byRule 22 [l0, l1, l2, l3] (S) σ else am_lim call mX11_byRule 16 [l0, l1, l2, l3] (S) σ := r_icmpB 22 dX11_byRule_13 (by decide) rfl
theorem eX11_byRule_16 : am_lim call mX11_byRule 16 [l0, some (.int x), l2, l3] (S) σ = am_lim call mX11_byRule 17 [l0, some (.int x), l2, l3] (.int x :: S) σ := r_iload_n dX11_byRule_16 rfl
theorem eX11_byRule_17 : am_lim call mX11_byRule 17 [l0, l1, l2, l3] (S) σ = am_lim call mX11_byRule 19 [l0, l1, l2, l3] (.int 36 :: S) σ := r_bipush dX11_byRule_17 (by decide)
theorem eX11_byRule_19 : am_lim call mX11_byRule 19 [l0, l1, l2, l3] (.int y :: .int x :: S) σ = if x ≤ y then am_lim call mX11_byRule 24 [l0, l1, l2, l3] (S) σ else am_lim call mX11_byRule 22 [l0, l1, l2, l3] (S) σ := r_icmpB 24 dX11_byRule_19 (by decide) rfl
theorem eX11_byRule_24 : am_lim call mX11_byRule 24 [l0, l1, l2, l3] (S) σ = am_lim call mX11_byRule 25 [l0, l1, l2, l3] (.int 0 :: S) σ := r_iconst dX11_byRule_24 (by decide)
theorem eX11_byRule_25 : am_lim call mX11_byRule 25 [l0, l1, l2, l3] (.int x :: S) σ = am_lim call mX11_byRule 26 [l0, l1, some (.int x), l3] (S) σ := r_istore_n dX11_byRule_25 rfl rfl rfl rfl
theorem eX11_byRule_26 : am_lim call mX11_byRule 26 [l0, l1, l2, l3] (S) σ = am_lim call mX11_byRule 27 [l0, l1, l2, l3] (.int 0 :: S) σ := r_iconst dX11_byRule_26 (by decide)
theorem eX11_byRule_27 : am_lim call mX11_byRule 27 [l0, l1, l2, l3] (.int x :: S) σ = am_lim call mX11_byRule 28 [l0, l1, l2, some (.int x)] (S) σ := r_istore_n dX11_byRule_27 rfl rfl rfl rfl
theorem eX11_byRule_28 : am_lim call mX11_byRule 28 [l0, l1, l2, some (.int x)] (S) σ = am_lim call mX11_byRule 29 [l0, l1, l2, some (.int x)] (.int x :: S) σ := r_iload_n dX11_byRule_28 rfl
theorem eX11_byRule_29 : am_lim call mX11_byRule 29 [some (.ref a), l1, l2, l3] (S) σ = am_lim call mX11_byRule 30 [some (.ref a), l1, l2, l3] (.ref a :: S) σ := r_aload_n dX11_byRule_29 rfl
theorem eX11_byRule_30 (h : g_o σ a 11) : am_lim call mX11_byRule 30 [l0, l1, l2, l3] (.ref a :: S) σ = am_lim call mX11_byRule 33 [l0, l1, l2, l3] (va_rf (g_R σ a 5) :: S) σ := r_getR dX11_byRule_30 f_11_29 rfl h
theorem eX11_byRule_33 (h : g_o σ a 2) : am_lim call mX11_byRule 33 [l0, l1, l2, l3] (.ref a :: S) σ = am_lim call mX11_byRule 36 [l0, l1, l2, l3] (.int (g_I σ a 4) :: S) σ := r_getI dX11_byRule_33 f_11_122 rfl h
theorem eX11_byRule_36 : am_lim call mX11_byRule 36 [l0, l1, l2, l3] (.int y :: .int x :: S) σ = if y ≤ x then am_lim call mX11_byRule 64 [l0, l1, l2, l3] (S) σ else am_lim call mX11_byRule 39 [l0, l1, l2, l3] (S) σ := r_icmpB 64 dX11_byRule_36 (by decide) rfl
theorem eX11_byRule_39 : am_lim call mX11_byRule 39 [some (.ref a), l1, l2, l3] (S) σ = am_lim call mX11_byRule 40 [some (.ref a), l1, l2, l3] (.ref a :: S) σ := r_aload_n dX11_byRule_39 rfl
theorem eX11_byRule_40 (h : g_o σ a 11) : am_lim call mX11_byRule 40 [l0, l1, l2, l3] (.ref a :: S) σ = am_lim call mX11_byRule 43 [l0, l1, l2, l3] (va_rf (g_R σ a 5) :: S) σ := r_getR dX11_byRule_40 f_11_29 rfl h
theorem eX11_byRule_43 (h : g_o σ a 2) : am_lim call mX11_byRule 43 [l0, l1, l2, l3] (.ref a :: S) σ = am_lim call mX11_byRule 46 [l0, l1, l2, l3] (va_rf (g_R σ a 1) :: S) σ := r_getR dX11_byRule_43 f_11_179 rfl h
theorem eX11_byRule_46 : am_lim call mX11_byRule 46 [l0, l1, l2, some (.int x)] (S) σ = am_lim call mX11_byRule 47 [l0, l1, l2, some (.int x)] (.int x :: S) σ := r_iload_n dX11_byRule_46 rfl
theorem eX11_byRule_47 : am_lim call mX11_byRule 47 [l0, l1, l2, l3] (S) σ = am_lim call mX11_byRule 49 [l0, l1, l2, l3] (.int 6 :: S) σ := r_bipush dX11_byRule_47 (by decide)
theorem eX11_byRule_49 : am_lim call mX11_byRule 49 [l0, l1, l2, l3] (.int y :: .int x :: S) σ = am_lim call mX11_byRule 50 [l0, l1, l2, l3] (.int (x * y) :: S) σ := r_imul dX11_byRule_49
theorem eX11_byRule_50 {n : Nat} (h : g_a σ a n) (hi : am_in x n) : am_lim call mX11_byRule 50 [l0, l1, l2, l3] (.int x :: .ref a :: S) σ = am_lim call mX11_byRule 51 [l0, l1, l2, l3] (.int (g_I σ a x.toNatClampNeg) :: S) σ := r_iald dX11_byRule_50 h hi
theorem eX11_byRule_51 : am_lim call mX11_byRule 51 [l0, some (.int x), l2, l3] (S) σ = am_lim call mX11_byRule 52 [l0, some (.int x), l2, l3] (.int x :: S) σ := r_iload_n dX11_byRule_51 rfl
theorem eX11_byRule_52 : am_lim call mX11_byRule 52 [l0, l1, l2, l3] (.int y :: .int x :: S) σ = if x ≠ y then am_lim call mX11_byRule 58 [l0, l1, l2, l3] (S) σ else am_lim call mX11_byRule 55 [l0, l1, l2, l3] (S) σ := r_icmpB 58 dX11_byRule_52 (by decide) rfl
theorem eX11_byRule_55 : am_lim call mX11_byRule 55 [l0, l1, some (.int x), l3] (S) σ = am_lim call mX11_byRule 58 [l0, l1, some (.int (x + 1)), l3] (S) σ := r_iinc dX11_byRule_55 rfl (by decide) rfl rfl rfl rfl
theorem eX11_byRule_58 : am_lim call mX11_byRule 58 [l0, l1, l2, some (.int x)] (S) σ = am_lim call mX11_byRule 61 [l0, l1, l2, some (.int (x + 1))] (S) σ := r_iinc dX11_byRule_58 rfl (by decide) rfl rfl rfl rfl
theorem eX11_byRule_61 : am_lim call mX11_byRule 61 [l0, l1, l2, l3] (S) σ = am_lim call mX11_byRule 28 [l0, l1, l2, l3] (S) σ := r_goto 28 dX11_byRule_61 (by decide)
theorem eX11_byRule_64 : am_lim call mX11_byRule 64 [l0, l1, some (.int x), l3] (S) σ = am_lim call mX11_byRule 65 [l0, l1, some (.int x), l3] (.int x :: S) σ := r_iload_n dX11_byRule_64 rfl
theorem eX11_byRule_65 : am_lim call mX11_byRule 65 [l0, l1, l2, l3] ([.int x]) σ = some (some (.int x), σ) := r_retI dX11_byRule_65 rfl
theorem eX11_byRule_22 : am_lim call mX11_byRule 22 [l0, l1, l2, l3] (S) σ = am_lim call mX11_byRule 23 [l0, l1, l2, l3] (.int (-1) :: S) σ := r_iconst dX11_byRule_22 (by decide)
theorem eX11_byRule_23 : am_lim call mX11_byRule 23 [l0, l1, l2, l3] ([.int x]) σ = some (some (.int x), σ) := r_retI dX11_byRule_23 rfl
theorem nX11_byRule {d : Nat} : am_run (d + 1) mX11_byRule [.ref b, .int v0] σ = am_lim (am_run d) mX11_byRule 0 [some (.ref b), some (.int v0), none, none] [] σ := am_run_S rfl rfl rfl rfl
theorem dX12_byRule_0 : decode cX12_byRule 0 = .ok (.aload_n 0, 1) := by decide +kernel
theorem dX12_byRule_1 : decode cX12_byRule 1 = .ok (.iconst 0, 1) := by decide +kernel
theorem dX12_byRule_2 : decode cX12_byRule 2 = .ok (.putfield 113, 3) := by decide +kernel
theorem dX12_byRule_5 : decode cX12_byRule 5 = .ok (.aload_n 0, 1) := by decide +kernel
theorem dX12_byRule_6 : decode cX12_byRule 6 = .ok (.getfield 431, 3) := by decide +kernel
theorem dX12_byRule_9 : decode cX12_byRule 9 = .ok (.ifCond .eq 15, 3) := by decide +kernel
theorem dX12_byRule_12 : decode cX12_byRule 12 = .ok (.iload_n 1, 1) := by decide +kernel
theorem dX12_byRule_13 : decode cX12_byRule 13 = .ok (.i2l, 1) := by decide +kernel
theorem dX12_byRule_14 : decode cX12_byRule 14 = .ok (.lconst 1, 1) := by decide +kernel
theorem dX12_byRule_15 : decode cX12_byRule 15 = .ok (.ldc2_w 493, 3) := by decide +kernel
theorem dX12_byRule_18 : decode cX12_byRule 18 = .ok (.invokestatic 199, 3) := by decide +kernel
theorem dX12_byRule_21 : decode cX12_byRule 21 = .ok (.ifCond .ne 5, 3) := by decide +kernel
theorem dX12_byRule_24 : decode cX12_byRule 24 = .ok (.iconst (-1), 1) := by decide +kernel
theorem dX12_byRule_25 : decode cX12_byRule 25 = .ok (.ireturn, 1) := by decide +kernel
theorem dX12_byRule_26 : decode cX12_byRule 26 = .ok (.iconst 0, 1) := by decide +kernel
theorem dX12_byRule_27 : decode cX12_byRule 27 = .ok (.istore_n 2, 1) := by decide +kernel
theorem dX12_byRule_28 : decode cX12_byRule 28 = .ok (.iconst 0, 1) := by decide +kernel
theorem dX12_byRule_29 : decode cX12_byRule 29 = .ok (.istore_n 3, 1) := by decide +kernel
theorem dX12_byRule_30 : decode cX12_byRule 30 = .ok (.iload_n 3, 1) := by decide +kernel
theorem dX12_byRule_31 : decode cX12_byRule 31 = .ok (.aload_n 0, 1) := by decide +kernel
theorem dX12_byRule_32 : decode cX12_byRule 32 = .ok (.getfield 273, 3) := by decide +kernel
theorem dX12_byRule_35 : decode cX12_byRule 35 = .ok (.if_icmp .ge 30, 3) := by decide +kernel
theorem dX12_byRule_38 : decode cX12_byRule 38 = .ok (.iload_n 2, 1) := by decide +kernel
theorem dX12_byRule_39 : decode cX12_byRule 39 = .ok (.aload_n 0, 1) := by decide +kernel
theorem dX12_byRule_40 : decode cX12_byRule 40 = .ok (.getfield 45, 3) := by decide +kernel
theorem dX12_byRule_43 : decode cX12_byRule 43 = .ok (.bipush 6, 2) := by decide +kernel
theorem dX12_byRule_45 : decode cX12_byRule 45 = .ok (.iload_n 3, 1) := by decide +kernel
theorem dX12_byRule_46 : decode cX12_byRule 46 = .ok (.imul, 1) := by decide +kernel
theorem dX12_byRule_47 : decode cX12_byRule 47 = .ok (.iaload, 1) := by decide +kernel
theorem dX12_byRule_48 : decode cX12_byRule 48 = .ok (.iload_n 1, 1) := by decide +kernel
theorem dX12_byRule_49 : decode cX12_byRule 49 = .ok (.if_icmp .ne 7, 3) := by decide +kernel
theorem dX12_byRule_52 : decode cX12_byRule 52 = .ok (.iconst 1, 1) := by decide +kernel
theorem dX12_byRule_53 : decode cX12_byRule 53 = .ok (.goto 4, 3) := by decide +kernel
theorem dX12_byRule_56 : decode cX12_byRule 56 = .ok (.iconst 0, 1) := by decide +kernel
theorem dX12_byRule_57 : decode cX12_byRule 57 = .ok (.iadd, 1) := by decide +kernel
theorem dX12_byRule_58 : decode cX12_byRule 58 = .ok (.istore_n 2, 1) := by decide +kernel
theorem dX12_byRule_59 : decode cX12_byRule 59 = .ok (.iinc 3 1, 3) := by decide +kernel
theorem dX12_byRule_62 : decode cX12_byRule 62 = .ok (.goto (-32), 3) := by decide +kernel
theorem dX12_byRule_65 : decode cX12_byRule 65 = .ok (.iload_n 2, 1) := by decide +kernel
theorem dX12_byRule_66 : decode cX12_byRule 66 = .ok (.ireturn, 1) := by decide +kernel
theorem eX12_byRule_0 : am_lim call mX12_byRule 0 [some (.ref a), l1, l2, l3] (S) σ = am_lim call mX12_byRule 1 [some (.ref a), l1, l2, l3] (.ref a :: S) σ := r_aload_n dX12_byRule_0 rfl
theorem eX12_byRule_1 : am_lim call mX12_byRule 1 [l0, l1, l2, l3] (S) σ = am_lim call mX12_byRule 2 [l0, l1, l2, l3] (.int 0 :: S) σ := r_iconst dX12_byRule_1 (by decide)
theorem eX12_byRule_2 (h : g_o σ a 12) : am_lim call mX12_byRule 2 [l0, l1, l2, l3] (.int x :: .ref a :: S) σ = am_lim call mX12_byRule 5 [l0, l1, l2, l3] (S) (am_sI σ a 0 x) := r_putI dX12_byRule_2 f_12_113 rfl rfl h
theorem eX12_byRule_5 : am_lim call mX12_byRule 5 [some (.ref a), l1, l2, l3] (S) σ = am_lim call mX12_byRule 6 [some (.ref a), l1, l2, l3] (.ref a :: S) σ := r_aload_n dX12_byRule_5 rfl
theorem eX12_byRule_6 (h : g_o σ a 12) : am_lim call mX12_byRule 6 [l0, l1, l2, l3] (.ref a :: S) σ = am_lim call mX12_byRule 9 [l0, l1, l2, l3] (.int (g_I σ a 36) :: S) σ := r_getI dX12_byRule_6 f_12_431 rfl h
theorem eX12_byRule_9 : am_lim call mX12_byRule 9 [l0, l1, l2, l3] (.int x :: S) σ = if x = 0 then am_lim call mX12_byRule 24 [l0, l1, l2, l3] (S) σ else am_lim call mX12_byRule 12 [l0, l1, l2, l3] (S) σ := r_ifB 24 dX12_byRule_9 (by decide) rfl
theorem eX12_byRule_12 : am_lim call mX12_byRule 12 [l0, some (.int x), l2, l3] (S) σ = am_lim call mX12_byRule 13 [l0, some (.int x), l2, l3] (.int x :: S) σ := r_iload_n dX12_byRule_12 rfl
theorem eX12_byRule_13 : am_lim call mX12_byRule 13 [l0, l1, l2, l3] (.int x :: S) σ = am_lim call mX12_byRule 14 [l0, l1, l2, l3] (.long x.toInt64 :: S) σ := r_i2l dX12_byRule_13
theorem eX12_byRule_14 : am_lim call mX12_byRule 14 [l0, l1, l2, l3] (S) σ = am_lim call mX12_byRule 15 [l0, l1, l2, l3] (.long 1 :: S) σ := r_lconst dX12_byRule_14 (by decide)
theorem eX12_byRule_15 : am_lim call mX12_byRule 15 [l0, l1, l2, l3] (S) σ = am_lim call mX12_byRule 18 [l0, l1, l2, l3] (.long 36 :: S) σ := r_ldc2 dX12_byRule_15 (by decide +kernel)
theorem eX12_byRule_18 : am_lim call mX12_byRule 18 [l0, l1, l2, l3] (.long w2 :: .long w1 :: .long w0 :: []) σ = am_k (call mX12_isIn [.long w0, .long w1, .long w2] σ) (fun r σ1 => am_lim call mX12_byRule 21 [l0, l1, l2, l3] (r.toList ++ []) σ1) := r_kS (S1 := [.long w2, .long w1, .long w0]) dX12_byRule_18 ⟨rfl, rfl, rfl⟩ mt_12_199 rfl (Nat.le_of_ble_eq_true rfl)
theorem eX12_byRule_21 : am_lim call mX12_byRule 21 [l0, l1, l2, l3] (.int x :: S) σ = if x ≠ 0 then am_lim call mX12_byRule 26 [l0, l1, l2, l3] (S) σ else am_lim call mX12_byRule 24 [l0, l1, l2, l3] (S) σ := r_ifB 26 dX12_byRule_21 (by decide) rfl
theorem eX12_byRule_26 : am_lim call mX12_byRule 26 [l0, l1, l2, l3] (S) σ = am_lim call mX12_byRule 27 [l0, l1, l2, l3] (.int 0 :: S) σ := r_iconst dX12_byRule_26 (by decide)
theorem eX12_byRule_27 : am_lim call mX12_byRule 27 [l0, l1, l2, l3] (.int x :: S) σ = am_lim call mX12_byRule 28 [l0, l1, some (.int x), l3] (S) σ := r_istore_n dX12_byRule_27 rfl rfl rfl rfl
theorem eX12_byRule_28 : am_lim call mX12_byRule 28 [l0, l1, l2, l3] (S) σ = am_lim call mX12_byRule 29 [l0, l1, l2, l3] (.int 0 :: S) σ := r_iconst dX12_byRule_28 (by decide)
theorem eX12_byRule_29 : am_lim call mX12_byRule 29 [l0, l1, l2, l3] (.int x :: S) σ = am_lim call mX12_byRule 30 [l0, l1, l2, some (.int x)] (S) σ := r_istore_n dX12_byRule_29 rfl rfl rfl rfl
theorem eX12_byRule_30 : am_lim call mX12_byRule 30 [l0, l1, l2, some (.int x)] (S) σ = am_lim call mX12_byRule 31 [l0, l1, l2, some (.int x)] (.int x :: S) σ := r_iload_n dX12_byRule_30 rfl
theorem eX12_byRule_31 : am_lim call mX12_byRule 31 [some (.ref a), l1, l2, l3] (S) σ = am_lim call mX12_byRule 32 [some (.ref a), l1, l2, l3] (.ref a :: S) σ := r_aload_n dX12_byRule_31 rfl
theorem eX12_byRule_32 (h : g_o σ a 12) : am_lim call mX12_byRule 32 [l0, l1, l2, l3] (.ref a :: S) σ = am_lim call mX12_byRule 35 [l0, l1, l2, l3] (.int (g_I σ a 25) :: S) σ := r_getI dX12_byRule_32 f_12_273 rfl h
theorem eX12_byRule_35 : am_lim call mX12_byRule 35 [l0, l1, l2, l3] (.int y :: .int x :: S) σ = if y ≤ x then am_lim call mX12_byRule 65 [l0, l1, l2, l3] (S) σ else am_lim call mX12_byRule 38 [l0, l1, l2, l3] (S) σ := r_icmpB 65 dX12_byRule_35 (by decide) rfl
theorem eX12_byRule_38 : am_lim call mX12_byRule 38 [l0, l1, some (.int x), l3] (S) σ = am_lim call mX12_byRule 39 [l0, l1, some (.int x), l3] (.int x :: S) σ := r_iload_n dX12_byRule_38 rfl
theorem eX12_byRule_39 : am_lim call mX12_byRule 39 [some (.ref a), l1, l2, l3] (S) σ = am_lim call mX12_byRule 40 [some (.ref a), l1, l2, l3] (.ref a :: S) σ := r_aload_n dX12_byRule_39 rfl
theorem eX12_byRule_40 (h : g_o σ a 12) : am_lim call mX12_byRule 40 [l0, l1, l2, l3] (.ref a :: S) σ = am_lim call mX12_byRule 43 [l0, l1, l2, l3] (va_rf (g_R σ a 24) :: S) σ := r_getR dX12_byRule_40 f_12_45 rfl h
theorem eX12_byRule_43 : am_lim call mX12_byRule 43 [l0, l1, l2, l3] (S) σ = am_lim call mX12_byRule 45 [l0, l1, l2, l3] (.int 6 :: S) σ := r_bipush dX12_byRule_43 (by decide)
theorem eX12_byRule_45 : am_lim call mX12_byRule 45 [l0, l1, l2, some (.int x)] (S) σ = am_lim call mX12_byRule 46 [l0, l1, l2, some (.int x)] (.int x :: S) σ := r_iload_n dX12_byRule_45 rfl
theorem eX12_byRule_46 : am_lim call mX12_byRule 46 [l0, l1, l2, l3] (.int y :: .int x :: S) σ = am_lim call mX12_byRule 47 [l0, l1, l2, l3] (.int (x * y) :: S) σ := r_imul dX12_byRule_46
theorem eX12_byRule_47 {n : Nat} (h : g_a σ a n) (hi : am_in x n) : am_lim call mX12_byRule 47 [l0, l1, l2, l3] (.int x :: .ref a :: S) σ = am_lim call mX12_byRule 48 [l0, l1, l2, l3] (.int (g_I σ a x.toNatClampNeg) :: S) σ := r_iald dX12_byRule_47 h hi
theorem eX12_byRule_48 : am_lim call mX12_byRule 48 [l0, some (.int x), l2, l3] (S) σ = am_lim call mX12_byRule 49 [l0, some (.int x), l2, l3] (.int x :: S) σ := r_iload_n dX12_byRule_48 rfl
theorem eX12_byRule_49 : am_lim call mX12_byRule 49 [l0, l1, l2, l3] (.int y :: .int x :: S) σ = if x ≠ y then am_lim call mX12_byRule 56 [l0, l1, l2, l3] (S) σ else am_lim call mX12_byRule 52 [l0, l1, l2, l3] (S) σ := r_icmpB 56 dX12_byRule_49 (by decide) rfl
theorem eX12_byRule_52 : am_lim call mX12_byRule 52 [l0, l1, l2, l3] (S) σ = am_lim call mX12_byRule 53 [l0, l1, l2, l3] (.int 1 :: S) σ := r_iconst dX12_byRule_52 (by decide)
theorem eX12_byRule_53 : am_lim call mX12_byRule 53 [l0, l1, l2, l3] (S) σ = am_lim call mX12_byRule 57 [l0, l1, l2, l3] (S) σ := r_goto 57 dX12_byRule_53 (by decide)
theorem eX12_byRule_57 : am_lim call mX12_byRule 57 [l0, l1, l2, l3] (.int y :: .int x :: S) σ = am_lim call mX12_byRule 58 [l0, l1, l2, l3] (.int (x + y) :: S) σ := r_iadd dX12_byRule_57
theorem eX12_byRule_58 : am_lim call mX12_byRule 58 [l0, l1, l2, l3] (.int x :: S) σ = am_lim call mX12_byRule 59 [l0, l1, some (.int x), l3] (S) σ := r_istore_n dX12_byRule_58 rfl rfl rfl rfl
theorem eX12_byRule_59 : am_lim call mX12_byRule 59 [l0, l1, l2, some (.int x)] (S) σ = am_lim call mX12_byRule 62 [l0, l1, l2, some (.int (x + 1))] (S) σ := r_iinc dX12_byRule_59 rfl (by decide) rfl rfl rfl rfl
theorem eX12_byRule_62 : am_lim call mX12_byRule 62 [l0, l1, l2, l3] (S) σ = am_lim call mX12_byRule 30 [l0, l1, l2, l3] (S) σ := r_goto 30 dX12_byRule_62 (by decide)
theorem eX12_byRule_56 : am_lim call mX12_byRule 56 [l0, l1, l2, l3] (S) σ = am_lim call mX12_byRule 57 [l0, l1, l2, l3] (.int 0 :: S) σ := r_iconst dX12_byRule_56 (by decide)
theorem eX12_byRule_65 : am_lim call mX12_byRule 65 [l0, l1, some (.int x), l3] (S) σ = am_lim call mX12_byRule 66 [l0, l1, some (.int x), l3] (.int x :: S) σ := r_iload_n dX12_byRule_65 rfl
theorem eX12_byRule_66 : am_lim call mX12_byRule 66 [l0, l1, l2, l3] ([.int x]) σ = some (some (.int x), σ) := r_retI dX12_byRule_66 rfl
theorem eX12_byRule_24 : am_lim call mX12_byRule 24 [l0, l1, l2, l3] (S) σ = am_lim call mX12_byRule 25 [l0, l1, l2, l3] (.int (-1) :: S) σ := r_iconst dX12_byRule_24 (by decide)
theorem eX12_byRule_25 : am_lim call mX12_byRule 25 [l0, l1, l2, l3] ([.int x]) σ = some (some (.int x), σ) := r_retI dX12_byRule_25 rfl
theorem nX12_byRule {d : Nat} : am_run (d + 1) mX12_byRule [.ref b, .int v0] σ = am_lim (am_run d) mX12_byRule 0 [some (.ref b), some (.int v0), none, none] [] σ := am_run_S rfl rfl rfl rfl
theorem dX11_worked_0 : decode cX11_worked 0 = .ok (.aload_n 0, 1) := by decide +kernel
theorem dX11_worked_1 : decode cX11_worked 1 = .ok (.getfield 70, 3) := by decide +kernel
theorem dX11_worked_4 : decode cX11_worked 4 = .ok (.ifCond .eq 12, 3) := by decide +kernel
theorem dX11_worked_7 : decode cX11_worked 7 = .ok (.iload_n 1, 1) := by decide +kernel
theorem dX11_worked_8 : decode cX11_worked 8 = .ok (.ifCond .lt 8, 3) := by decide +kernel
theorem dX11_worked_11 : decode cX11_worked 11 = .ok (.iload_n 1, 1) := by decide +kernel
theorem dX11_worked_12 : decode cX11_worked 12 = .ok (.iconst 3, 1) := by decide +kernel
theorem dX11_worked_13 : decode cX11_worked 13 = .ok (.if_icmp .le 6, 3) := by decide +kernel
theorem dX11_worked_16 : decode cX11_worked 16 = .ok (.bipush (-2), 2) := by decide +kernel
theorem dX11_worked_18 : decode cX11_worked 18 = .ok (.ireturn, 1) := by decide +kernel
theorem dX11_worked_19 : decode cX11_worked 19 = .ok (.aload_n 0, 1) := by decide +kernel
theorem dX11_worked_20 : decode cX11_worked 20 = .ok (.getfield 59, 3) := by decide +kernel
theorem dX11_worked_23 : decode cX11_worked 23 = .ok (.aload_n 0, 1) := by decide +kernel
theorem dX11_worked_24 : decode cX11_worked 24 = .ok (.getfield 10, 3) := by decide +kernel
theorem dX11_worked_27 : decode cX11_worked 27 = .ok (.aload_n 0, 1) := by decide +kernel
theorem dX11_worked_28 : decode cX11_worked 28 = .ok (.getfield 22, 3) := by decide +kernel
theorem dX11_worked_31 : decode cX11_worked 31 = .ok (.invokevirtual 232, 3) := by decide +kernel
theorem dX11_worked_34 : decode cX11_worked 34 = .ok (.iload_n 1, 1) := by decide +kernel
theorem dX11_worked_35 : decode cX11_worked 35 = .ok (.tableswitch 49 0 2 #[25, 33, 41], 25) := by decide +kernel
theorem dX11_worked_60 : decode cX11_worked 60 = .ok (.aload_n 0, 1) := by decide +kernel
theorem dX11_worked_61 : decode cX11_worked 61 = .ok (.getfield 59, 3) := by decide +kernel
theorem dX11_worked_64 : decode cX11_worked 64 = .ok (.getfield 235, 3) := by decide +kernel
theorem dX11_worked_67 : decode cX11_worked 67 = .ok (.ireturn, 1) := by decide +kernel
theorem dX11_worked_68 : decode cX11_worked 68 = .ok (.aload_n 0, 1) := by decide +kernel
theorem dX11_worked_69 : decode cX11_worked 69 = .ok (.getfield 59, 3) := by decide +kernel
theorem dX11_worked_72 : decode cX11_worked 72 = .ok (.getfield 238, 3) := by decide +kernel
theorem dX11_worked_75 : decode cX11_worked 75 = .ok (.ireturn, 1) := by decide +kernel
theorem dX11_worked_76 : decode cX11_worked 76 = .ok (.aload_n 0, 1) := by decide +kernel
theorem dX11_worked_77 : decode cX11_worked 77 = .ok (.getfield 59, 3) := by decide +kernel
theorem dX11_worked_80 : decode cX11_worked 80 = .ok (.invokevirtual 241, 3) := by decide +kernel
theorem dX11_worked_83 : decode cX11_worked 83 = .ok (.ireturn, 1) := by decide +kernel
theorem dX11_worked_84 : decode cX11_worked 84 = .ok (.aload_n 0, 1) := by decide +kernel
theorem dX11_worked_85 : decode cX11_worked 85 = .ok (.getfield 59, 3) := by decide +kernel
theorem dX11_worked_88 : decode cX11_worked 88 = .ok (.invokevirtual 244, 3) := by decide +kernel
theorem dX11_worked_91 : decode cX11_worked 91 = .ok (.ireturn, 1) := by decide +kernel
theorem eX11_worked_0 : am_lim call mX11_worked 0 [some (.ref a), l1] (S) σ = am_lim call mX11_worked 1 [some (.ref a), l1] (.ref a :: S) σ := r_aload_n dX11_worked_0 rfl
theorem eX11_worked_1 (h : g_o σ a 11) : am_lim call mX11_worked 1 [l0, l1] (.ref a :: S) σ = am_lim call mX11_worked 4 [l0, l1] (.int (g_I σ a 9) :: S) σ := r_getI dX11_worked_1 f_11_70 rfl h
theorem eX11_worked_4 : am_lim call mX11_worked 4 [l0, l1] (.int x :: S) σ = if x = 0 then am_lim call mX11_worked 16 [l0, l1] (S) σ else am_lim call mX11_worked 7 [l0, l1] (S) σ := r_ifB 16 dX11_worked_4 (by decide) rfl
theorem eX11_worked_7 : am_lim call mX11_worked 7 [l0, some (.int x)] (S) σ = am_lim call mX11_worked 8 [l0, some (.int x)] (.int x :: S) σ := r_iload_n dX11_worked_7 rfl
theorem eX11_worked_8 : am_lim call mX11_worked 8 [l0, l1] (.int x :: S) σ = if x < 0 then am_lim call mX11_worked 16 [l0, l1] (S) σ else am_lim call mX11_worked 11 [l0, l1] (S) σ := r_ifB 16 dX11_worked_8 (by decide) rfl
theorem eX11_worked_11 : am_lim call mX11_worked 11 [l0, some (.int x)] (S) σ = am_lim call mX11_worked 12 [l0, some (.int x)] (.int x :: S) σ := r_iload_n dX11_worked_11 rfl
theorem eX11_worked_12 : am_lim call mX11_worked 12 [l0, l1] (S) σ = am_lim call mX11_worked 13 [l0, l1] (.int 3 :: S) σ := r_iconst dX11_worked_12 (by decide)
theorem eX11_worked_13 : am_lim call mX11_worked 13 [l0, l1] (.int y :: .int x :: S) σ = if x ≤ y then am_lim call mX11_worked 19 [l0, l1] (S) σ else am_lim call mX11_worked 16 [l0, l1] (S) σ := r_icmpB 19 dX11_worked_13 (by decide) rfl
theorem eX11_worked_19 : am_lim call mX11_worked 19 [some (.ref a), l1] (S) σ = am_lim call mX11_worked 20 [some (.ref a), l1] (.ref a :: S) σ := r_aload_n dX11_worked_19 rfl
theorem eX11_worked_20 (h : g_o σ a 11) : am_lim call mX11_worked 20 [l0, l1] (.ref a :: S) σ = am_lim call mX11_worked 23 [l0, l1] (va_rf (g_R σ a 3) :: S) σ := r_getR dX11_worked_20 f_11_59 rfl h
theorem eX11_worked_23 : am_lim call mX11_worked 23 [some (.ref a), l1] (S) σ = am_lim call mX11_worked 24 [some (.ref a), l1] (.ref a :: S) σ := r_aload_n dX11_worked_23 rfl
theorem eX11_worked_24 (h : g_o σ a 11) : am_lim call mX11_worked 24 [l0, l1] (.ref a :: S) σ = am_lim call mX11_worked 27 [l0, l1] (va_rf (g_R σ a 7) :: S) σ := r_getR dX11_worked_24 f_11_10 rfl h
theorem eX11_worked_27 : am_lim call mX11_worked 27 [some (.ref a), l1] (S) σ = am_lim call mX11_worked 28 [some (.ref a), l1] (.ref a :: S) σ := r_aload_n dX11_worked_27 rfl
theorem eX11_worked_28 (h : g_o σ a 11) : am_lim call mX11_worked 28 [l0, l1] (.ref a :: S) σ = am_lim call mX11_worked 31 [l0, l1] (va_rf (g_R σ a 1) :: S) σ := r_getR dX11_worked_28 f_11_22 rfl h
theorem eX11_worked_31 (h : g_o σ b 10) : am_lim call mX11_worked 31 [l0, l1] (.ref p1 :: .ref p0 :: .ref b :: []) σ = am_k (call mX10_workOut [.ref b, .ref p0, .ref p1] σ) (fun r σ1 => am_lim call mX11_worked 34 [l0, l1] (r.toList ++ []) σ1) := r_kV (S1 := [.ref p1, .ref p0]) dX11_worked_31 mt_11_232 rfl h (Nat.le_of_ble_eq_true rfl)
theorem eX11_worked_34 : am_lim call mX11_worked 34 [l0, some (.int x)] (S) σ = am_lim call mX11_worked 35 [l0, some (.int x)] (.int x :: S) σ := r_iload_n dX11_worked_34 rfl
theorem eX11_worked_35_0 : am_lim call mX11_worked 35 [l0, l1] (.int 0 :: S) σ = am_lim call mX11_worked 60 [l0, l1] (S) σ := r_tsK (off := 25) 60 dX11_worked_35 (by decide) (by decide) (by decide)
theorem eX11_worked_35_1 : am_lim call mX11_worked 35 [l0, l1] (.int 1 :: S) σ = am_lim call mX11_worked 68 [l0, l1] (S) σ := r_tsK (off := 33) 68 dX11_worked_35 (by decide) (by decide) (by decide)
theorem eX11_worked_35_2 : am_lim call mX11_worked 35 [l0, l1] (.int 2 :: S) σ = am_lim call mX11_worked 76 [l0, l1] (S) σ := r_tsK (off := 41) 76 dX11_worked_35 (by decide) (by decide) (by decide)
theorem eX11_worked_35_d (h : x.toInt < 0 ∨ 2 < x.toInt) : am_lim call mX11_worked 35 [l0, l1] (.int x :: S) σ = am_lim call mX11_worked 84 [l0, l1] (S) σ := r_tsD 84 dX11_worked_35 h (by decide)
theorem eX11_worked_84 : am_lim call mX11_worked 84 [some (.ref a), l1] (S) σ = am_lim call mX11_worked 85 [some (.ref a), l1] (.ref a :: S) σ := r_aload_n dX11_worked_84 rfl
theorem eX11_worked_85 (h : g_o σ a 11) : am_lim call mX11_worked 85 [l0, l1] (.ref a :: S) σ = am_lim call mX11_worked 88 [l0, l1] (va_rf (g_R σ a 3) :: S) σ := r_getR dX11_worked_85 f_11_59 rfl h
theorem eX11_worked_88 (h : g_o σ b 10) : am_lim call mX11_worked 88 [l0, l1] (.ref b :: []) σ = am_k (call mX10_answerNumber [.ref b] σ) (fun r σ1 => am_lim call mX11_worked 91 [l0, l1] (r.toList ++ []) σ1) := r_kV (S1 := []) dX11_worked_88 mt_11_244 rfl h (Nat.le_of_ble_eq_true rfl)
theorem eX11_worked_91 : am_lim call mX11_worked 91 [l0, l1] ([.int x]) σ = some (some (.int x), σ) := r_retI dX11_worked_91 rfl
theorem eX11_worked_76 : am_lim call mX11_worked 76 [some (.ref a), l1] (S) σ = am_lim call mX11_worked 77 [some (.ref a), l1] (.ref a :: S) σ := r_aload_n dX11_worked_76 rfl
theorem eX11_worked_77 (h : g_o σ a 11) : am_lim call mX11_worked 77 [l0, l1] (.ref a :: S) σ = am_lim call mX11_worked 80 [l0, l1] (va_rf (g_R σ a 3) :: S) σ := r_getR dX11_worked_77 f_11_59 rfl h
theorem eX11_worked_80 (h : g_o σ b 10) : am_lim call mX11_worked 80 [l0, l1] (.ref b :: []) σ = am_k (call mX10_answerKind [.ref b] σ) (fun r σ1 => am_lim call mX11_worked 83 [l0, l1] (r.toList ++ []) σ1) := r_kV (S1 := []) dX11_worked_80 mt_11_241 rfl h (Nat.le_of_ble_eq_true rfl)
theorem eX11_worked_83 : am_lim call mX11_worked 83 [l0, l1] ([.int x]) σ = some (some (.int x), σ) := r_retI dX11_worked_83 rfl
theorem eX11_worked_68 : am_lim call mX11_worked 68 [some (.ref a), l1] (S) σ = am_lim call mX11_worked 69 [some (.ref a), l1] (.ref a :: S) σ := r_aload_n dX11_worked_68 rfl
theorem eX11_worked_69 (h : g_o σ a 11) : am_lim call mX11_worked 69 [l0, l1] (.ref a :: S) σ = am_lim call mX11_worked 72 [l0, l1] (va_rf (g_R σ a 3) :: S) σ := r_getR dX11_worked_69 f_11_59 rfl h
theorem eX11_worked_72 (h : g_o σ a 10) : am_lim call mX11_worked 72 [l0, l1] (.ref a :: S) σ = am_lim call mX11_worked 75 [l0, l1] (.int (g_I σ a 1) :: S) σ := r_getI dX11_worked_72 f_11_238 rfl h
theorem eX11_worked_75 : am_lim call mX11_worked 75 [l0, l1] ([.int x]) σ = some (some (.int x), σ) := r_retI dX11_worked_75 rfl
theorem eX11_worked_60 : am_lim call mX11_worked 60 [some (.ref a), l1] (S) σ = am_lim call mX11_worked 61 [some (.ref a), l1] (.ref a :: S) σ := r_aload_n dX11_worked_60 rfl
theorem eX11_worked_61 (h : g_o σ a 11) : am_lim call mX11_worked 61 [l0, l1] (.ref a :: S) σ = am_lim call mX11_worked 64 [l0, l1] (va_rf (g_R σ a 3) :: S) σ := r_getR dX11_worked_61 f_11_59 rfl h
theorem eX11_worked_64 (h : g_o σ a 10) : am_lim call mX11_worked 64 [l0, l1] (.ref a :: S) σ = am_lim call mX11_worked 67 [l0, l1] (.int (g_I σ a 0) :: S) σ := r_getI dX11_worked_64 f_11_235 rfl h
theorem eX11_worked_67 : am_lim call mX11_worked 67 [l0, l1] ([.int x]) σ = some (some (.int x), σ) := r_retI dX11_worked_67 rfl
theorem eX11_worked_16 : am_lim call mX11_worked 16 [l0, l1] (S) σ = am_lim call mX11_worked 18 [l0, l1] (.int (-2) :: S) σ := r_bipush dX11_worked_16 (by decide)
theorem eX11_worked_18 : am_lim call mX11_worked 18 [l0, l1] ([.int x]) σ = some (some (.int x), σ) := r_retI dX11_worked_18 rfl
theorem nX11_worked {d : Nat} : am_run (d + 1) mX11_worked [.ref b, .int v0] σ = am_lim (am_run d) mX11_worked 0 [some (.ref b), some (.int v0)] [] σ := am_run_S rfl rfl rfl rfl
theorem dX12_worked_0 : decode cX12_worked 0 = .ok (.aload_n 0, 1) := by decide +kernel
theorem dX12_worked_1 : decode cX12_worked 1 = .ok (.iconst 0, 1) := by decide +kernel
theorem dX12_worked_2 : decode cX12_worked 2 = .ok (.putfield 113, 3) := by decide +kernel
theorem dX12_worked_5 : decode cX12_worked 5 = .ok (.aload_n 0, 1) := by decide +kernel
theorem dX12_worked_6 : decode cX12_worked 6 = .ok (.getfield 444, 3) := by decide +kernel
theorem dX12_worked_9 : decode cX12_worked 9 = .ok (.ifCond .eq 15, 3) := by decide +kernel
theorem dX12_worked_12 : decode cX12_worked 12 = .ok (.iload_n 1, 1) := by decide +kernel
theorem dX12_worked_13 : decode cX12_worked 13 = .ok (.i2l, 1) := by decide +kernel
theorem dX12_worked_14 : decode cX12_worked 14 = .ok (.lconst 0, 1) := by decide +kernel
theorem dX12_worked_15 : decode cX12_worked 15 = .ok (.ldc2_w 521, 3) := by decide +kernel
theorem dX12_worked_18 : decode cX12_worked 18 = .ok (.invokestatic 199, 3) := by decide +kernel
theorem dX12_worked_21 : decode cX12_worked 21 = .ok (.ifCond .ne 6, 3) := by decide +kernel
theorem dX12_worked_24 : decode cX12_worked 24 = .ok (.bipush (-2), 2) := by decide +kernel
theorem dX12_worked_26 : decode cX12_worked 26 = .ok (.ireturn, 1) := by decide +kernel
theorem dX12_worked_27 : decode cX12_worked 27 = .ok (.aload_n 0, 1) := by decide +kernel
theorem dX12_worked_28 : decode cX12_worked 28 = .ok (.iconst 0, 1) := by decide +kernel
theorem dX12_worked_29 : decode cX12_worked 29 = .ok (.putfield 526, 3) := by decide +kernel
theorem dX12_worked_32 : decode cX12_worked 32 = .ok (.aload_n 0, 1) := by decide +kernel
theorem dX12_worked_33 : decode cX12_worked 33 = .ok (.iconst 0, 1) := by decide +kernel
theorem dX12_worked_34 : decode cX12_worked 34 = .ok (.putfield 532, 3) := by decide +kernel
theorem dX12_worked_37 : decode cX12_worked 37 = .ok (.aload_n 0, 1) := by decide +kernel
theorem dX12_worked_38 : decode cX12_worked 38 = .ok (.iconst 0, 1) := by decide +kernel
theorem dX12_worked_39 : decode cX12_worked 39 = .ok (.putfield 538, 3) := by decide +kernel
theorem dX12_worked_42 : decode cX12_worked 42 = .ok (.aload_n 0, 1) := by decide +kernel
theorem dX12_worked_43 : decode cX12_worked 43 = .ok (.iconst 0, 1) := by decide +kernel
theorem dX12_worked_44 : decode cX12_worked 44 = .ok (.putfield 535, 3) := by decide +kernel
theorem dX12_worked_47 : decode cX12_worked 47 = .ok (.aload_n 0, 1) := by decide +kernel
theorem dX12_worked_48 : decode cX12_worked 48 = .ok (.sipush 300, 3) := by decide +kernel
theorem dX12_worked_51 : decode cX12_worked 51 = .ok (.iconst (-1), 1) := by decide +kernel
theorem dX12_worked_52 : decode cX12_worked 52 = .ok (.invokevirtual 547, 3) := by decide +kernel
theorem dX12_worked_55 : decode cX12_worked 55 = .ok (.istore_n 2, 1) := by decide +kernel
theorem dX12_worked_56 : decode cX12_worked 56 = .ok (.iload_n 1, 1) := by decide +kernel
theorem dX12_worked_57 : decode cX12_worked 57 = .ok (.ifCond .ne 8, 3) := by decide +kernel
theorem dX12_worked_60 : decode cX12_worked 60 = .ok (.aload_n 0, 1) := by decide +kernel
theorem dX12_worked_61 : decode cX12_worked 61 = .ok (.getfield 535, 3) := by decide +kernel
theorem dX12_worked_64 : decode cX12_worked 64 = .ok (.ireturn, 1) := by decide +kernel
theorem dX12_worked_65 : decode cX12_worked 65 = .ok (.iload_n 1, 1) := by decide +kernel
theorem dX12_worked_66 : decode cX12_worked 66 = .ok (.iconst 1, 1) := by decide +kernel
theorem dX12_worked_67 : decode cX12_worked 67 = .ok (.if_icmp .ne 8, 3) := by decide +kernel
theorem dX12_worked_70 : decode cX12_worked 70 = .ok (.aload_n 0, 1) := by decide +kernel
theorem dX12_worked_71 : decode cX12_worked 71 = .ok (.getfield 538, 3) := by decide +kernel
theorem dX12_worked_74 : decode cX12_worked 74 = .ok (.ireturn, 1) := by decide +kernel
theorem dX12_worked_75 : decode cX12_worked 75 = .ok (.aload_n 0, 1) := by decide +kernel
theorem dX12_worked_76 : decode cX12_worked 76 = .ok (.getfield 535, 3) := by decide +kernel
theorem dX12_worked_79 : decode cX12_worked 79 = .ok (.ifCond .eq 14, 3) := by decide +kernel
theorem dX12_worked_82 : decode cX12_worked 82 = .ok (.iload_n 1, 1) := by decide +kernel
theorem dX12_worked_83 : decode cX12_worked 83 = .ok (.iconst 2, 1) := by decide +kernel
theorem dX12_worked_84 : decode cX12_worked 84 = .ok (.if_icmp .ne 7, 3) := by decide +kernel
theorem dX12_worked_87 : decode cX12_worked 87 = .ok (.iconst (-1), 1) := by decide +kernel
theorem dX12_worked_88 : decode cX12_worked 88 = .ok (.goto 4, 3) := by decide +kernel
theorem dX12_worked_91 : decode cX12_worked 91 = .ok (.iconst 0, 1) := by decide +kernel
theorem dX12_worked_92 : decode cX12_worked 92 = .ok (.ireturn, 1) := by decide +kernel
theorem dX12_worked_93 : decode cX12_worked 93 = .ok (.iload_n 1, 1) := by decide +kernel
theorem dX12_worked_94 : decode cX12_worked 94 = .ok (.iconst 2, 1) := by decide +kernel
theorem dX12_worked_95 : decode cX12_worked 95 = .ok (.if_icmp .ne 12, 3) := by decide +kernel
theorem dX12_worked_98 : decode cX12_worked 98 = .ok (.aload_n 0, 1) := by decide +kernel
theorem dX12_worked_99 : decode cX12_worked 99 = .ok (.getfield 92, 3) := by decide +kernel
theorem dX12_worked_102 : decode cX12_worked 102 = .ok (.iload_n 2, 1) := by decide +kernel
theorem dX12_worked_103 : decode cX12_worked 103 = .ok (.iaload, 1) := by decide +kernel
theorem dX12_worked_104 : decode cX12_worked 104 = .ok (.goto 28, 3) := by decide +kernel
theorem dX12_worked_107 : decode cX12_worked 107 = .ok (.aload_n 0, 1) := by decide +kernel
theorem dX12_worked_108 : decode cX12_worked 108 = .ok (.getfield 92, 3) := by decide +kernel
theorem dX12_worked_111 : decode cX12_worked 111 = .ok (.iload_n 2, 1) := by decide +kernel
theorem dX12_worked_112 : decode cX12_worked 112 = .ok (.iaload, 1) := by decide +kernel
theorem dX12_worked_113 : decode cX12_worked 113 = .ok (.iconst 2, 1) := by decide +kernel
theorem dX12_worked_114 : decode cX12_worked 114 = .ok (.if_icmp .ge 12, 3) := by decide +kernel
theorem dX12_worked_117 : decode cX12_worked 117 = .ok (.aload_n 0, 1) := by decide +kernel
theorem dX12_worked_118 : decode cX12_worked 118 = .ok (.getfield 95, 3) := by decide +kernel
theorem dX12_worked_121 : decode cX12_worked 121 = .ok (.iload_n 2, 1) := by decide +kernel
theorem dX12_worked_122 : decode cX12_worked 122 = .ok (.iaload, 1) := by decide +kernel
theorem dX12_worked_123 : decode cX12_worked 123 = .ok (.goto 9, 3) := by decide +kernel
theorem dX12_worked_126 : decode cX12_worked 126 = .ok (.aload_n 0, 1) := by decide +kernel
theorem dX12_worked_127 : decode cX12_worked 127 = .ok (.getfield 101, 3) := by decide +kernel
theorem dX12_worked_130 : decode cX12_worked 130 = .ok (.iload_n 2, 1) := by decide +kernel
theorem dX12_worked_131 : decode cX12_worked 131 = .ok (.iaload, 1) := by decide +kernel
theorem dX12_worked_132 : decode cX12_worked 132 = .ok (.ireturn, 1) := by decide +kernel
theorem eX12_worked_0 : am_lim call mX12_worked 0 [some (.ref a), l1, l2] (S) σ = am_lim call mX12_worked 1 [some (.ref a), l1, l2] (.ref a :: S) σ := r_aload_n dX12_worked_0 rfl
theorem eX12_worked_1 : am_lim call mX12_worked 1 [l0, l1, l2] (S) σ = am_lim call mX12_worked 2 [l0, l1, l2] (.int 0 :: S) σ := r_iconst dX12_worked_1 (by decide)
theorem eX12_worked_2 (h : g_o σ a 12) : am_lim call mX12_worked 2 [l0, l1, l2] (.int x :: .ref a :: S) σ = am_lim call mX12_worked 5 [l0, l1, l2] (S) (am_sI σ a 0 x) := r_putI dX12_worked_2 f_12_113 rfl rfl h
theorem eX12_worked_5 : am_lim call mX12_worked 5 [some (.ref a), l1, l2] (S) σ = am_lim call mX12_worked 6 [some (.ref a), l1, l2] (.ref a :: S) σ := r_aload_n dX12_worked_5 rfl
theorem eX12_worked_6 (h : g_o σ a 12) : am_lim call mX12_worked 6 [l0, l1, l2] (.ref a :: S) σ = am_lim call mX12_worked 9 [l0, l1, l2] (.int (g_I σ a 39) :: S) σ := r_getI dX12_worked_6 f_12_444 rfl h
theorem eX12_worked_9 : am_lim call mX12_worked 9 [l0, l1, l2] (.int x :: S) σ = if x = 0 then am_lim call mX12_worked 24 [l0, l1, l2] (S) σ else am_lim call mX12_worked 12 [l0, l1, l2] (S) σ := r_ifB 24 dX12_worked_9 (by decide) rfl
theorem eX12_worked_12 : am_lim call mX12_worked 12 [l0, some (.int x), l2] (S) σ = am_lim call mX12_worked 13 [l0, some (.int x), l2] (.int x :: S) σ := r_iload_n dX12_worked_12 rfl
theorem eX12_worked_13 : am_lim call mX12_worked 13 [l0, l1, l2] (.int x :: S) σ = am_lim call mX12_worked 14 [l0, l1, l2] (.long x.toInt64 :: S) σ := r_i2l dX12_worked_13
theorem eX12_worked_14 : am_lim call mX12_worked 14 [l0, l1, l2] (S) σ = am_lim call mX12_worked 15 [l0, l1, l2] (.long 0 :: S) σ := r_lconst dX12_worked_14 (by decide)
theorem eX12_worked_15 : am_lim call mX12_worked 15 [l0, l1, l2] (S) σ = am_lim call mX12_worked 18 [l0, l1, l2] (.long 3 :: S) σ := r_ldc2 dX12_worked_15 (by decide +kernel)
theorem eX12_worked_18 : am_lim call mX12_worked 18 [l0, l1, l2] (.long w2 :: .long w1 :: .long w0 :: []) σ = am_k (call mX12_isIn [.long w0, .long w1, .long w2] σ) (fun r σ1 => am_lim call mX12_worked 21 [l0, l1, l2] (r.toList ++ []) σ1) := r_kS (S1 := [.long w2, .long w1, .long w0]) dX12_worked_18 ⟨rfl, rfl, rfl⟩ mt_12_199 rfl (Nat.le_of_ble_eq_true rfl)
theorem eX12_worked_21 : am_lim call mX12_worked 21 [l0, l1, l2] (.int x :: S) σ = if x ≠ 0 then am_lim call mX12_worked 27 [l0, l1, l2] (S) σ else am_lim call mX12_worked 24 [l0, l1, l2] (S) σ := r_ifB 27 dX12_worked_21 (by decide) rfl
theorem eX12_worked_27 : am_lim call mX12_worked 27 [some (.ref a), l1, l2] (S) σ = am_lim call mX12_worked 28 [some (.ref a), l1, l2] (.ref a :: S) σ := r_aload_n dX12_worked_27 rfl
theorem eX12_worked_28 : am_lim call mX12_worked 28 [l0, l1, l2] (S) σ = am_lim call mX12_worked 29 [l0, l1, l2] (.int 0 :: S) σ := r_iconst dX12_worked_28 (by decide)
theorem eX12_worked_29 (h : g_o σ a 12) : am_lim call mX12_worked 29 [l0, l1, l2] (.int x :: .ref a :: S) σ = am_lim call mX12_worked 32 [l0, l1, l2] (S) (am_sI σ a 70 x) := r_putI dX12_worked_29 f_12_526 rfl rfl h
theorem eX12_worked_32 : am_lim call mX12_worked 32 [some (.ref a), l1, l2] (S) σ = am_lim call mX12_worked 33 [some (.ref a), l1, l2] (.ref a :: S) σ := r_aload_n dX12_worked_32 rfl
theorem eX12_worked_33 : am_lim call mX12_worked 33 [l0, l1, l2] (S) σ = am_lim call mX12_worked 34 [l0, l1, l2] (.int 0 :: S) σ := r_iconst dX12_worked_33 (by decide)
theorem eX12_worked_34 (h : g_o σ a 12) : am_lim call mX12_worked 34 [l0, l1, l2] (.int x :: .ref a :: S) σ = am_lim call mX12_worked 37 [l0, l1, l2] (S) (am_sI σ a 71 x) := r_putI dX12_worked_34 f_12_532 rfl rfl h
theorem eX12_worked_37 : am_lim call mX12_worked 37 [some (.ref a), l1, l2] (S) σ = am_lim call mX12_worked 38 [some (.ref a), l1, l2] (.ref a :: S) σ := r_aload_n dX12_worked_37 rfl
theorem eX12_worked_38 : am_lim call mX12_worked 38 [l0, l1, l2] (S) σ = am_lim call mX12_worked 39 [l0, l1, l2] (.int 0 :: S) σ := r_iconst dX12_worked_38 (by decide)
theorem eX12_worked_39 (h : g_o σ a 12) : am_lim call mX12_worked 39 [l0, l1, l2] (.int x :: .ref a :: S) σ = am_lim call mX12_worked 42 [l0, l1, l2] (S) (am_sI σ a 72 x) := r_putI dX12_worked_39 f_12_538 rfl rfl h
theorem eX12_worked_42 : am_lim call mX12_worked 42 [some (.ref a), l1, l2] (S) σ = am_lim call mX12_worked 43 [some (.ref a), l1, l2] (.ref a :: S) σ := r_aload_n dX12_worked_42 rfl
theorem eX12_worked_43 : am_lim call mX12_worked 43 [l0, l1, l2] (S) σ = am_lim call mX12_worked 44 [l0, l1, l2] (.int 0 :: S) σ := r_iconst dX12_worked_43 (by decide)
theorem eX12_worked_44 (h : g_o σ a 12) : am_lim call mX12_worked 44 [l0, l1, l2] (.int x :: .ref a :: S) σ = am_lim call mX12_worked 47 [l0, l1, l2] (S) (am_sI σ a 73 x) := r_putI dX12_worked_44 f_12_535 rfl rfl h
theorem eX12_worked_47 : am_lim call mX12_worked 47 [some (.ref a), l1, l2] (S) σ = am_lim call mX12_worked 48 [some (.ref a), l1, l2] (.ref a :: S) σ := r_aload_n dX12_worked_47 rfl
theorem eX12_worked_48 : am_lim call mX12_worked 48 [l0, l1, l2] (S) σ = am_lim call mX12_worked 51 [l0, l1, l2] (.int 300 :: S) σ := r_sipush dX12_worked_48 (by decide)
theorem eX12_worked_51 : am_lim call mX12_worked 51 [l0, l1, l2] (S) σ = am_lim call mX12_worked 52 [l0, l1, l2] (.int (-1) :: S) σ := r_iconst dX12_worked_51 (by decide)
theorem eX12_worked_52 (h : g_o σ b 12) : am_lim call mX12_worked 52 [l0, l1, l2] (.int v1 :: .int v0 :: .ref b :: []) σ = am_k (call mX12_works [.ref b, .int v0, .int v1] σ) (fun r σ1 => am_lim call mX12_worked 55 [l0, l1, l2] (r.toList ++ []) σ1) := r_kV (S1 := [.int v1, .int v0]) dX12_worked_52 mt_12_547 rfl h (Nat.le_of_ble_eq_true rfl)
theorem eX12_worked_55 : am_lim call mX12_worked 55 [l0, l1, l2] (.int x :: S) σ = am_lim call mX12_worked 56 [l0, l1, some (.int x)] (S) σ := r_istore_n dX12_worked_55 rfl rfl rfl rfl
theorem eX12_worked_56 : am_lim call mX12_worked 56 [l0, some (.int x), l2] (S) σ = am_lim call mX12_worked 57 [l0, some (.int x), l2] (.int x :: S) σ := r_iload_n dX12_worked_56 rfl
theorem eX12_worked_57 : am_lim call mX12_worked 57 [l0, l1, l2] (.int x :: S) σ = if x ≠ 0 then am_lim call mX12_worked 65 [l0, l1, l2] (S) σ else am_lim call mX12_worked 60 [l0, l1, l2] (S) σ := r_ifB 65 dX12_worked_57 (by decide) rfl
theorem eX12_worked_60 : am_lim call mX12_worked 60 [some (.ref a), l1, l2] (S) σ = am_lim call mX12_worked 61 [some (.ref a), l1, l2] (.ref a :: S) σ := r_aload_n dX12_worked_60 rfl
theorem eX12_worked_61 (h : g_o σ a 12) : am_lim call mX12_worked 61 [l0, l1, l2] (.ref a :: S) σ = am_lim call mX12_worked 64 [l0, l1, l2] (.int (g_I σ a 73) :: S) σ := r_getI dX12_worked_61 f_12_535 rfl h
theorem eX12_worked_64 : am_lim call mX12_worked 64 [l0, l1, l2] ([.int x]) σ = some (some (.int x), σ) := r_retI dX12_worked_64 rfl
theorem eX12_worked_65 : am_lim call mX12_worked 65 [l0, some (.int x), l2] (S) σ = am_lim call mX12_worked 66 [l0, some (.int x), l2] (.int x :: S) σ := r_iload_n dX12_worked_65 rfl
theorem eX12_worked_66 : am_lim call mX12_worked 66 [l0, l1, l2] (S) σ = am_lim call mX12_worked 67 [l0, l1, l2] (.int 1 :: S) σ := r_iconst dX12_worked_66 (by decide)
theorem eX12_worked_67 : am_lim call mX12_worked 67 [l0, l1, l2] (.int y :: .int x :: S) σ = if x ≠ y then am_lim call mX12_worked 75 [l0, l1, l2] (S) σ else am_lim call mX12_worked 70 [l0, l1, l2] (S) σ := r_icmpB 75 dX12_worked_67 (by decide) rfl
theorem eX12_worked_70 : am_lim call mX12_worked 70 [some (.ref a), l1, l2] (S) σ = am_lim call mX12_worked 71 [some (.ref a), l1, l2] (.ref a :: S) σ := r_aload_n dX12_worked_70 rfl
theorem eX12_worked_71 (h : g_o σ a 12) : am_lim call mX12_worked 71 [l0, l1, l2] (.ref a :: S) σ = am_lim call mX12_worked 74 [l0, l1, l2] (.int (g_I σ a 72) :: S) σ := r_getI dX12_worked_71 f_12_538 rfl h
theorem eX12_worked_74 : am_lim call mX12_worked 74 [l0, l1, l2] ([.int x]) σ = some (some (.int x), σ) := r_retI dX12_worked_74 rfl
theorem eX12_worked_75 : am_lim call mX12_worked 75 [some (.ref a), l1, l2] (S) σ = am_lim call mX12_worked 76 [some (.ref a), l1, l2] (.ref a :: S) σ := r_aload_n dX12_worked_75 rfl
theorem eX12_worked_76 (h : g_o σ a 12) : am_lim call mX12_worked 76 [l0, l1, l2] (.ref a :: S) σ = am_lim call mX12_worked 79 [l0, l1, l2] (.int (g_I σ a 73) :: S) σ := r_getI dX12_worked_76 f_12_535 rfl h
theorem eX12_worked_79 : am_lim call mX12_worked 79 [l0, l1, l2] (.int x :: S) σ = if x = 0 then am_lim call mX12_worked 93 [l0, l1, l2] (S) σ else am_lim call mX12_worked 82 [l0, l1, l2] (S) σ := r_ifB 93 dX12_worked_79 (by decide) rfl
theorem eX12_worked_82 : am_lim call mX12_worked 82 [l0, some (.int x), l2] (S) σ = am_lim call mX12_worked 83 [l0, some (.int x), l2] (.int x :: S) σ := r_iload_n dX12_worked_82 rfl
theorem eX12_worked_83 : am_lim call mX12_worked 83 [l0, l1, l2] (S) σ = am_lim call mX12_worked 84 [l0, l1, l2] (.int 2 :: S) σ := r_iconst dX12_worked_83 (by decide)
theorem eX12_worked_84 : am_lim call mX12_worked 84 [l0, l1, l2] (.int y :: .int x :: S) σ = if x ≠ y then am_lim call mX12_worked 91 [l0, l1, l2] (S) σ else am_lim call mX12_worked 87 [l0, l1, l2] (S) σ := r_icmpB 91 dX12_worked_84 (by decide) rfl
theorem eX12_worked_87 : am_lim call mX12_worked 87 [l0, l1, l2] (S) σ = am_lim call mX12_worked 88 [l0, l1, l2] (.int (-1) :: S) σ := r_iconst dX12_worked_87 (by decide)
theorem eX12_worked_88 : am_lim call mX12_worked 88 [l0, l1, l2] (S) σ = am_lim call mX12_worked 92 [l0, l1, l2] (S) σ := r_goto 92 dX12_worked_88 (by decide)
theorem eX12_worked_92 : am_lim call mX12_worked 92 [l0, l1, l2] ([.int x]) σ = some (some (.int x), σ) := r_retI dX12_worked_92 rfl
theorem eX12_worked_91 : am_lim call mX12_worked 91 [l0, l1, l2] (S) σ = am_lim call mX12_worked 92 [l0, l1, l2] (.int 0 :: S) σ := r_iconst dX12_worked_91 (by decide)
theorem eX12_worked_93 : am_lim call mX12_worked 93 [l0, some (.int x), l2] (S) σ = am_lim call mX12_worked 94 [l0, some (.int x), l2] (.int x :: S) σ := r_iload_n dX12_worked_93 rfl
theorem eX12_worked_94 : am_lim call mX12_worked 94 [l0, l1, l2] (S) σ = am_lim call mX12_worked 95 [l0, l1, l2] (.int 2 :: S) σ := r_iconst dX12_worked_94 (by decide)
theorem eX12_worked_95 : am_lim call mX12_worked 95 [l0, l1, l2] (.int y :: .int x :: S) σ = if x ≠ y then am_lim call mX12_worked 107 [l0, l1, l2] (S) σ else am_lim call mX12_worked 98 [l0, l1, l2] (S) σ := r_icmpB 107 dX12_worked_95 (by decide) rfl
theorem eX12_worked_98 : am_lim call mX12_worked 98 [some (.ref a), l1, l2] (S) σ = am_lim call mX12_worked 99 [some (.ref a), l1, l2] (.ref a :: S) σ := r_aload_n dX12_worked_98 rfl
theorem eX12_worked_99 (h : g_o σ a 12) : am_lim call mX12_worked 99 [l0, l1, l2] (.ref a :: S) σ = am_lim call mX12_worked 102 [l0, l1, l2] (va_rf (g_R σ a 63) :: S) σ := r_getR dX12_worked_99 f_12_92 rfl h
theorem eX12_worked_102 : am_lim call mX12_worked 102 [l0, l1, some (.int x)] (S) σ = am_lim call mX12_worked 103 [l0, l1, some (.int x)] (.int x :: S) σ := r_iload_n dX12_worked_102 rfl
theorem eX12_worked_103 {n : Nat} (h : g_a σ a n) (hi : am_in x n) : am_lim call mX12_worked 103 [l0, l1, l2] (.int x :: .ref a :: S) σ = am_lim call mX12_worked 104 [l0, l1, l2] (.int (g_I σ a x.toNatClampNeg) :: S) σ := r_iald dX12_worked_103 h hi
theorem eX12_worked_104 : am_lim call mX12_worked 104 [l0, l1, l2] (S) σ = am_lim call mX12_worked 132 [l0, l1, l2] (S) σ := r_goto 132 dX12_worked_104 (by decide)
theorem eX12_worked_132 : am_lim call mX12_worked 132 [l0, l1, l2] ([.int x]) σ = some (some (.int x), σ) := r_retI dX12_worked_132 rfl
theorem eX12_worked_107 : am_lim call mX12_worked 107 [some (.ref a), l1, l2] (S) σ = am_lim call mX12_worked 108 [some (.ref a), l1, l2] (.ref a :: S) σ := r_aload_n dX12_worked_107 rfl
theorem eX12_worked_108 (h : g_o σ a 12) : am_lim call mX12_worked 108 [l0, l1, l2] (.ref a :: S) σ = am_lim call mX12_worked 111 [l0, l1, l2] (va_rf (g_R σ a 63) :: S) σ := r_getR dX12_worked_108 f_12_92 rfl h
theorem eX12_worked_111 : am_lim call mX12_worked 111 [l0, l1, some (.int x)] (S) σ = am_lim call mX12_worked 112 [l0, l1, some (.int x)] (.int x :: S) σ := r_iload_n dX12_worked_111 rfl
theorem eX12_worked_112 {n : Nat} (h : g_a σ a n) (hi : am_in x n) : am_lim call mX12_worked 112 [l0, l1, l2] (.int x :: .ref a :: S) σ = am_lim call mX12_worked 113 [l0, l1, l2] (.int (g_I σ a x.toNatClampNeg) :: S) σ := r_iald dX12_worked_112 h hi
theorem eX12_worked_113 : am_lim call mX12_worked 113 [l0, l1, l2] (S) σ = am_lim call mX12_worked 114 [l0, l1, l2] (.int 2 :: S) σ := r_iconst dX12_worked_113 (by decide)
theorem eX12_worked_114 : am_lim call mX12_worked 114 [l0, l1, l2] (.int y :: .int x :: S) σ = if y ≤ x then am_lim call mX12_worked 126 [l0, l1, l2] (S) σ else am_lim call mX12_worked 117 [l0, l1, l2] (S) σ := r_icmpB 126 dX12_worked_114 (by decide) rfl
theorem eX12_worked_117 : am_lim call mX12_worked 117 [some (.ref a), l1, l2] (S) σ = am_lim call mX12_worked 118 [some (.ref a), l1, l2] (.ref a :: S) σ := r_aload_n dX12_worked_117 rfl
theorem eX12_worked_118 (h : g_o σ a 12) : am_lim call mX12_worked 118 [l0, l1, l2] (.ref a :: S) σ = am_lim call mX12_worked 121 [l0, l1, l2] (va_rf (g_R σ a 64) :: S) σ := r_getR dX12_worked_118 f_12_95 rfl h
theorem eX12_worked_121 : am_lim call mX12_worked 121 [l0, l1, some (.int x)] (S) σ = am_lim call mX12_worked 122 [l0, l1, some (.int x)] (.int x :: S) σ := r_iload_n dX12_worked_121 rfl
theorem eX12_worked_122 {n : Nat} (h : g_a σ a n) (hi : am_in x n) : am_lim call mX12_worked 122 [l0, l1, l2] (.int x :: .ref a :: S) σ = am_lim call mX12_worked 123 [l0, l1, l2] (.int (g_I σ a x.toNatClampNeg) :: S) σ := r_iald dX12_worked_122 h hi
theorem eX12_worked_123 : am_lim call mX12_worked 123 [l0, l1, l2] (S) σ = am_lim call mX12_worked 132 [l0, l1, l2] (S) σ := r_goto 132 dX12_worked_123 (by decide)
theorem eX12_worked_126 : am_lim call mX12_worked 126 [some (.ref a), l1, l2] (S) σ = am_lim call mX12_worked 127 [some (.ref a), l1, l2] (.ref a :: S) σ := r_aload_n dX12_worked_126 rfl
theorem eX12_worked_127 (h : g_o σ a 12) : am_lim call mX12_worked 127 [l0, l1, l2] (.ref a :: S) σ = am_lim call mX12_worked 130 [l0, l1, l2] (va_rf (g_R σ a 66) :: S) σ := r_getR dX12_worked_127 f_12_101 rfl h
theorem eX12_worked_130 : am_lim call mX12_worked 130 [l0, l1, some (.int x)] (S) σ = am_lim call mX12_worked 131 [l0, l1, some (.int x)] (.int x :: S) σ := r_iload_n dX12_worked_130 rfl
theorem eX12_worked_131 {n : Nat} (h : g_a σ a n) (hi : am_in x n) : am_lim call mX12_worked 131 [l0, l1, l2] (.int x :: .ref a :: S) σ = am_lim call mX12_worked 132 [l0, l1, l2] (.int (g_I σ a x.toNatClampNeg) :: S) σ := r_iald dX12_worked_131 h hi
theorem eX12_worked_24 : am_lim call mX12_worked 24 [l0, l1, l2] (S) σ = am_lim call mX12_worked 26 [l0, l1, l2] (.int (-2) :: S) σ := r_bipush dX12_worked_24 (by decide)
theorem eX12_worked_26 : am_lim call mX12_worked 26 [l0, l1, l2] ([.int x]) σ = some (some (.int x), σ) := r_retI dX12_worked_26 rfl
theorem nX12_worked {d : Nat} : am_run (d + 1) mX12_worked [.ref b, .int v0] σ = am_lim (am_run d) mX12_worked 0 [some (.ref b), some (.int v0), none] [] σ := am_run_S rfl rfl rfl rfl
theorem dX11_asks_0 : decode cX11_asks 0 = .ok (.aload_n 0, 1) := by decide +kernel
theorem dX11_asks_1 : decode cX11_asks 1 = .ok (.getfield 70, 3) := by decide +kernel
theorem dX11_asks_4 : decode cX11_asks 4 = .ok (.ifCond .ne 6, 3) := by decide +kernel
theorem dX11_asks_7 : decode cX11_asks 7 = .ok (.bipush (-2), 2) := by decide +kernel
theorem dX11_asks_9 : decode cX11_asks 9 = .ok (.ireturn, 1) := by decide +kernel
theorem dX11_asks_10 : decode cX11_asks 10 = .ok (.aload_n 0, 1) := by decide +kernel
theorem dX11_asks_11 : decode cX11_asks 11 = .ok (.getfield 41, 3) := by decide +kernel
theorem dX11_asks_14 : decode cX11_asks 14 = .ok (.iconst 1, 1) := by decide +kernel
theorem dX11_asks_15 : decode cX11_asks 15 = .ok (.invokevirtual 97, 3) := by decide +kernel
theorem dX11_asks_18 : decode cX11_asks 18 = .ok (.istore_n 1, 1) := by decide +kernel
theorem dX11_asks_19 : decode cX11_asks 19 = .ok (.iload_n 1, 1) := by decide +kernel
theorem dX11_asks_20 : decode cX11_asks 20 = .ok (.iconst (-1), 1) := by decide +kernel
theorem dX11_asks_21 : decode cX11_asks 21 = .ok (.if_icmp .eq 8, 3) := by decide +kernel
theorem dX11_asks_24 : decode cX11_asks 24 = .ok (.bipush (-3), 2) := by decide +kernel
theorem dX11_asks_26 : decode cX11_asks 26 = .ok (.iload_n 1, 1) := by decide +kernel
theorem dX11_asks_27 : decode cX11_asks 27 = .ok (.isub, 1) := by decide +kernel
theorem dX11_asks_28 : decode cX11_asks 28 = .ok (.ireturn, 1) := by decide +kernel
theorem dX11_asks_29 : decode cX11_asks 29 = .ok (.aload_n 0, 1) := by decide +kernel
theorem dX11_asks_30 : decode cX11_asks 30 = .ok (.getfield 41, 3) := by decide +kernel
theorem dX11_asks_33 : decode cX11_asks 33 = .ok (.iconst 0, 1) := by decide +kernel
theorem dX11_asks_34 : decode cX11_asks 34 = .ok (.putfield 86, 3) := by decide +kernel
theorem dX11_asks_37 : decode cX11_asks 37 = .ok (.iconst (-1), 1) := by decide +kernel
theorem dX11_asks_38 : decode cX11_asks 38 = .ok (.istore_n 2, 1) := by decide +kernel
theorem dX11_asks_39 : decode cX11_asks 39 = .ok (.iconst 0, 1) := by decide +kernel
theorem dX11_asks_40 : decode cX11_asks 40 = .ok (.istore_n 3, 1) := by decide +kernel
theorem dX11_asks_41 : decode cX11_asks 41 = .ok (.iconst 0, 1) := by decide +kernel
theorem dX11_asks_42 : decode cX11_asks 42 = .ok (.istore 4, 2) := by decide +kernel
theorem dX11_asks_44 : decode cX11_asks 44 = .ok (.iload 4, 2) := by decide +kernel
theorem dX11_asks_46 : decode cX11_asks 46 = .ok (.aload_n 0, 1) := by decide +kernel
theorem dX11_asks_47 : decode cX11_asks 47 = .ok (.getfield 10, 3) := by decide +kernel
theorem dX11_asks_50 : decode cX11_asks 50 = .ok (.getfield 231, 3) := by decide +kernel
theorem dX11_asks_53 : decode cX11_asks 53 = .ok (.if_icmp .ge 108, 3) := by decide +kernel
theorem dX11_asks_56 : decode cX11_asks 56 = .ok (.iload_n 3, 1) := by decide +kernel
theorem dX11_asks_57 : decode cX11_asks 57 = .ok (.sipush 500, 3) := by decide +kernel
theorem dX11_asks_60 : decode cX11_asks 60 = .ok (.if_icmp .ge 101, 3) := by decide +kernel
theorem dX11_asks_63 : decode cX11_asks 63 = .ok (.iload_n 2, 1) := by decide +kernel
theorem dX11_asks_64 : decode cX11_asks 64 = .ok (.iconst (-1), 1) := by decide +kernel
theorem dX11_asks_65 : decode cX11_asks 65 = .ok (.if_icmp .ne 96, 3) := by decide +kernel
theorem dX11_asks_68 : decode cX11_asks 68 = .ok (.aload_n 0, 1) := by decide +kernel
theorem dX11_asks_69 : decode cX11_asks 69 = .ok (.getfield 10, 3) := by decide +kernel
theorem dX11_asks_72 : decode cX11_asks 72 = .ok (.iload 4, 2) := by decide +kernel
theorem dX11_asks_74 : decode cX11_asks 74 = .ok (.aload_n 0, 1) := by decide +kernel
theorem dX11_asks_75 : decode cX11_asks 75 = .ok (.getfield 41, 3) := by decide +kernel
theorem dX11_asks_78 : decode cX11_asks 78 = .ok (.getfield 111, 3) := by decide +kernel
theorem dX11_asks_81 : decode cX11_asks 81 = .ok (.invokevirtual 247, 3) := by decide +kernel
theorem dX11_asks_84 : decode cX11_asks 84 = .ok (.aload_n 0, 1) := by decide +kernel
theorem dX11_asks_85 : decode cX11_asks 85 = .ok (.getfield 50, 3) := by decide +kernel
theorem dX11_asks_88 : decode cX11_asks 88 = .ok (.aload_n 0, 1) := by decide +kernel
theorem dX11_asks_89 : decode cX11_asks 89 = .ok (.getfield 33, 3) := by decide +kernel
theorem dX11_asks_92 : decode cX11_asks 92 = .ok (.aload_n 0, 1) := by decide +kernel
theorem dX11_asks_93 : decode cX11_asks 93 = .ok (.getfield 10, 3) := by decide +kernel
theorem dX11_asks_96 : decode cX11_asks 96 = .ok (.aload_n 0, 1) := by decide +kernel
theorem dX11_asks_97 : decode cX11_asks 97 = .ok (.getfield 22, 3) := by decide +kernel
theorem dX11_asks_100 : decode cX11_asks 100 = .ok (.sipush 300, 3) := by decide +kernel
theorem dX11_asks_103 : decode cX11_asks 103 = .ok (.sipush 500, 3) := by decide +kernel
theorem dX11_asks_106 : decode cX11_asks 106 = .ok (.iload_n 3, 1) := by decide +kernel
theorem dX11_asks_107 : decode cX11_asks 107 = .ok (.isub, 1) := by decide +kernel
theorem dX11_asks_108 : decode cX11_asks 108 = .ok (.invokestatic 251, 3) := by decide +kernel
theorem dX11_asks_111 : decode cX11_asks 111 = .ok (.invokevirtual 100, 3) := by decide +kernel
theorem dX11_asks_114 : decode cX11_asks 114 = .ok (.aload_n 0, 1) := by decide +kernel
theorem dX11_asks_115 : decode cX11_asks 115 = .ok (.getfield 50, 3) := by decide +kernel
theorem dX11_asks_118 : decode cX11_asks 118 = .ok (.invokevirtual 104, 3) := by decide +kernel
theorem dX11_asks_121 : decode cX11_asks 121 = .ok (.iload_n 3, 1) := by decide +kernel
theorem dX11_asks_122 : decode cX11_asks 122 = .ok (.aload_n 0, 1) := by decide +kernel
theorem dX11_asks_123 : decode cX11_asks 123 = .ok (.getfield 33, 3) := by decide +kernel
theorem dX11_asks_126 : decode cX11_asks 126 = .ok (.getfield 122, 3) := by decide +kernel
theorem dX11_asks_129 : decode cX11_asks 129 = .ok (.iadd, 1) := by decide +kernel
theorem dX11_asks_130 : decode cX11_asks 130 = .ok (.istore_n 3, 1) := by decide +kernel
theorem dX11_asks_131 : decode cX11_asks 131 = .ok (.aload_n 0, 1) := by decide +kernel
theorem dX11_asks_132 : decode cX11_asks 132 = .ok (.getfield 33, 3) := by decide +kernel
theorem dX11_asks_135 : decode cX11_asks 135 = .ok (.getfield 131, 3) := by decide +kernel
theorem dX11_asks_138 : decode cX11_asks 138 = .ok (.ifCond .ne 15, 3) := by decide +kernel
theorem dX11_asks_141 : decode cX11_asks 141 = .ok (.aload_n 0, 1) := by decide +kernel
theorem dX11_asks_142 : decode cX11_asks 142 = .ok (.getfield 10, 3) := by decide +kernel
theorem dX11_asks_145 : decode cX11_asks 145 = .ok (.iload 4, 2) := by decide +kernel
theorem dX11_asks_147 : decode cX11_asks 147 = .ok (.invokevirtual 254, 3) := by decide +kernel
theorem dX11_asks_150 : decode cX11_asks 150 = .ok (.goto 4, 3) := by decide +kernel
theorem dX11_asks_153 : decode cX11_asks 153 = .ok (.iconst (-1), 1) := by decide +kernel
theorem dX11_asks_154 : decode cX11_asks 154 = .ok (.istore_n 2, 1) := by decide +kernel
theorem dX11_asks_155 : decode cX11_asks 155 = .ok (.iinc 4 1, 3) := by decide +kernel
theorem dX11_asks_158 : decode cX11_asks 158 = .ok (.goto (-114), 3) := by decide +kernel
theorem dX11_asks_161 : decode cX11_asks 161 = .ok (.aload_n 0, 1) := by decide +kernel
theorem dX11_asks_162 : decode cX11_asks 162 = .ok (.getfield 10, 3) := by decide +kernel
theorem dX11_asks_165 : decode cX11_asks 165 = .ok (.invokevirtual 257, 3) := by decide +kernel
theorem dX11_asks_168 : decode cX11_asks 168 = .ok (.iload_n 2, 1) := by decide +kernel
theorem dX11_asks_169 : decode cX11_asks 169 = .ok (.ireturn, 1) := by decide +kernel
theorem eX11_asks_0 : am_lim call mX11_asks 0 [some (.ref a), l1, l2, l3, l4] (S) σ = am_lim call mX11_asks 1 [some (.ref a), l1, l2, l3, l4] (.ref a :: S) σ := r_aload_n dX11_asks_0 rfl
theorem eX11_asks_1 (h : g_o σ a 11) : am_lim call mX11_asks 1 [l0, l1, l2, l3, l4] (.ref a :: S) σ = am_lim call mX11_asks 4 [l0, l1, l2, l3, l4] (.int (g_I σ a 9) :: S) σ := r_getI dX11_asks_1 f_11_70 rfl h
theorem eX11_asks_4 : am_lim call mX11_asks 4 [l0, l1, l2, l3, l4] (.int x :: S) σ = if x ≠ 0 then am_lim call mX11_asks 10 [l0, l1, l2, l3, l4] (S) σ else am_lim call mX11_asks 7 [l0, l1, l2, l3, l4] (S) σ := r_ifB 10 dX11_asks_4 (by decide) rfl
theorem eX11_asks_7 : am_lim call mX11_asks 7 [l0, l1, l2, l3, l4] (S) σ = am_lim call mX11_asks 9 [l0, l1, l2, l3, l4] (.int (-2) :: S) σ := r_bipush dX11_asks_7 (by decide)
theorem eX11_asks_9 : am_lim call mX11_asks 9 [l0, l1, l2, l3, l4] ([.int x]) σ = some (some (.int x), σ) := r_retI dX11_asks_9 rfl
theorem eX11_asks_10 : am_lim call mX11_asks 10 [some (.ref a), l1, l2, l3, l4] (S) σ = am_lim call mX11_asks 11 [some (.ref a), l1, l2, l3, l4] (.ref a :: S) σ := r_aload_n dX11_asks_10 rfl
theorem eX11_asks_11 (h : g_o σ a 11) : am_lim call mX11_asks 11 [l0, l1, l2, l3, l4] (.ref a :: S) σ = am_lim call mX11_asks 14 [l0, l1, l2, l3, l4] (va_rf (g_R σ a 0) :: S) σ := r_getR dX11_asks_11 f_11_41 rfl h
theorem eX11_asks_14 : am_lim call mX11_asks 14 [l0, l1, l2, l3, l4] (S) σ = am_lim call mX11_asks 15 [l0, l1, l2, l3, l4] (.int 1 :: S) σ := r_iconst dX11_asks_14 (by decide)
theorem eX11_asks_15 (h : g_o σ b 3) : am_lim call mX11_asks 15 [l0, l1, l2, l3, l4] (.int v0 :: .ref b :: []) σ = am_k (call mX3_readTypes [.ref b, .int v0] σ) (fun r σ1 => am_lim call mX11_asks 18 [l0, l1, l2, l3, l4] (r.toList ++ []) σ1) := r_kV (S1 := [.int v0]) dX11_asks_15 mt_11_97 rfl h (Nat.le_of_ble_eq_true rfl)
theorem eX11_asks_18 : am_lim call mX11_asks 18 [l0, l1, l2, l3, l4] (.int x :: S) σ = am_lim call mX11_asks 19 [l0, some (.int x), l2, l3, l4] (S) σ := r_istore_n dX11_asks_18 rfl rfl rfl rfl
theorem eX11_asks_19 : am_lim call mX11_asks 19 [l0, some (.int x), l2, l3, l4] (S) σ = am_lim call mX11_asks 20 [l0, some (.int x), l2, l3, l4] (.int x :: S) σ := r_iload_n dX11_asks_19 rfl
theorem eX11_asks_20 : am_lim call mX11_asks 20 [l0, l1, l2, l3, l4] (S) σ = am_lim call mX11_asks 21 [l0, l1, l2, l3, l4] (.int (-1) :: S) σ := r_iconst dX11_asks_20 (by decide)
theorem eX11_asks_21 : am_lim call mX11_asks 21 [l0, l1, l2, l3, l4] (.int y :: .int x :: S) σ = if x = y then am_lim call mX11_asks 29 [l0, l1, l2, l3, l4] (S) σ else am_lim call mX11_asks 24 [l0, l1, l2, l3, l4] (S) σ := r_icmpB 29 dX11_asks_21 (by decide) rfl
theorem eX11_asks_24 : am_lim call mX11_asks 24 [l0, l1, l2, l3, l4] (S) σ = am_lim call mX11_asks 26 [l0, l1, l2, l3, l4] (.int (-3) :: S) σ := r_bipush dX11_asks_24 (by decide)
theorem eX11_asks_26 : am_lim call mX11_asks 26 [l0, some (.int x), l2, l3, l4] (S) σ = am_lim call mX11_asks 27 [l0, some (.int x), l2, l3, l4] (.int x :: S) σ := r_iload_n dX11_asks_26 rfl
theorem eX11_asks_27 : am_lim call mX11_asks 27 [l0, l1, l2, l3, l4] (.int y :: .int x :: S) σ = am_lim call mX11_asks 28 [l0, l1, l2, l3, l4] (.int (x - y) :: S) σ := r_isub dX11_asks_27
theorem eX11_asks_28 : am_lim call mX11_asks 28 [l0, l1, l2, l3, l4] ([.int x]) σ = some (some (.int x), σ) := r_retI dX11_asks_28 rfl
theorem eX11_asks_29 : am_lim call mX11_asks 29 [some (.ref a), l1, l2, l3, l4] (S) σ = am_lim call mX11_asks 30 [some (.ref a), l1, l2, l3, l4] (.ref a :: S) σ := r_aload_n dX11_asks_29 rfl
theorem eX11_asks_30 (h : g_o σ a 11) : am_lim call mX11_asks 30 [l0, l1, l2, l3, l4] (.ref a :: S) σ = am_lim call mX11_asks 33 [l0, l1, l2, l3, l4] (va_rf (g_R σ a 0) :: S) σ := r_getR dX11_asks_30 f_11_41 rfl h
theorem eX11_asks_33 : am_lim call mX11_asks 33 [l0, l1, l2, l3, l4] (S) σ = am_lim call mX11_asks 34 [l0, l1, l2, l3, l4] (.int 0 :: S) σ := r_iconst dX11_asks_33 (by decide)
theorem eX11_asks_34 (h : g_o σ a 3) : am_lim call mX11_asks 34 [l0, l1, l2, l3, l4] (.int x :: .ref a :: S) σ = am_lim call mX11_asks 37 [l0, l1, l2, l3, l4] (S) (am_sI σ a 0 x) := r_putI dX11_asks_34 f_11_86 rfl rfl h
theorem eX11_asks_37 : am_lim call mX11_asks 37 [l0, l1, l2, l3, l4] (S) σ = am_lim call mX11_asks 38 [l0, l1, l2, l3, l4] (.int (-1) :: S) σ := r_iconst dX11_asks_37 (by decide)
theorem eX11_asks_38 : am_lim call mX11_asks 38 [l0, l1, l2, l3, l4] (.int x :: S) σ = am_lim call mX11_asks 39 [l0, l1, some (.int x), l3, l4] (S) σ := r_istore_n dX11_asks_38 rfl rfl rfl rfl
theorem eX11_asks_39 : am_lim call mX11_asks 39 [l0, l1, l2, l3, l4] (S) σ = am_lim call mX11_asks 40 [l0, l1, l2, l3, l4] (.int 0 :: S) σ := r_iconst dX11_asks_39 (by decide)
theorem eX11_asks_40 : am_lim call mX11_asks 40 [l0, l1, l2, l3, l4] (.int x :: S) σ = am_lim call mX11_asks 41 [l0, l1, l2, some (.int x), l4] (S) σ := r_istore_n dX11_asks_40 rfl rfl rfl rfl
theorem eX11_asks_41 : am_lim call mX11_asks 41 [l0, l1, l2, l3, l4] (S) σ = am_lim call mX11_asks 42 [l0, l1, l2, l3, l4] (.int 0 :: S) σ := r_iconst dX11_asks_41 (by decide)
theorem eX11_asks_42 : am_lim call mX11_asks 42 [l0, l1, l2, l3, l4] (.int x :: S) σ = am_lim call mX11_asks 44 [l0, l1, l2, l3, some (.int x)] (S) σ := r_istore dX11_asks_42 rfl rfl rfl rfl
theorem eX11_asks_44 : am_lim call mX11_asks 44 [l0, l1, l2, l3, some (.int x)] (S) σ = am_lim call mX11_asks 46 [l0, l1, l2, l3, some (.int x)] (.int x :: S) σ := r_iload dX11_asks_44 rfl
theorem eX11_asks_46 : am_lim call mX11_asks 46 [some (.ref a), l1, l2, l3, l4] (S) σ = am_lim call mX11_asks 47 [some (.ref a), l1, l2, l3, l4] (.ref a :: S) σ := r_aload_n dX11_asks_46 rfl
theorem eX11_asks_47 (h : g_o σ a 11) : am_lim call mX11_asks 47 [l0, l1, l2, l3, l4] (.ref a :: S) σ = am_lim call mX11_asks 50 [l0, l1, l2, l3, l4] (va_rf (g_R σ a 7) :: S) σ := r_getR dX11_asks_47 f_11_10 rfl h
theorem eX11_asks_50 (h : g_o σ a 7) : am_lim call mX11_asks 50 [l0, l1, l2, l3, l4] (.ref a :: S) σ = am_lim call mX11_asks 53 [l0, l1, l2, l3, l4] (.int (g_I σ a 0) :: S) σ := r_getI dX11_asks_50 f_11_231 rfl h
theorem eX11_asks_53 : am_lim call mX11_asks 53 [l0, l1, l2, l3, l4] (.int y :: .int x :: S) σ = if y ≤ x then am_lim call mX11_asks 161 [l0, l1, l2, l3, l4] (S) σ else am_lim call mX11_asks 56 [l0, l1, l2, l3, l4] (S) σ := r_icmpB 161 dX11_asks_53 (by decide) rfl
theorem eX11_asks_56 : am_lim call mX11_asks 56 [l0, l1, l2, some (.int x), l4] (S) σ = am_lim call mX11_asks 57 [l0, l1, l2, some (.int x), l4] (.int x :: S) σ := r_iload_n dX11_asks_56 rfl
theorem eX11_asks_57 : am_lim call mX11_asks 57 [l0, l1, l2, l3, l4] (S) σ = am_lim call mX11_asks 60 [l0, l1, l2, l3, l4] (.int 500 :: S) σ := r_sipush dX11_asks_57 (by decide)
theorem eX11_asks_60 : am_lim call mX11_asks 60 [l0, l1, l2, l3, l4] (.int y :: .int x :: S) σ = if y ≤ x then am_lim call mX11_asks 161 [l0, l1, l2, l3, l4] (S) σ else am_lim call mX11_asks 63 [l0, l1, l2, l3, l4] (S) σ := r_icmpB 161 dX11_asks_60 (by decide) rfl
theorem eX11_asks_63 : am_lim call mX11_asks 63 [l0, l1, some (.int x), l3, l4] (S) σ = am_lim call mX11_asks 64 [l0, l1, some (.int x), l3, l4] (.int x :: S) σ := r_iload_n dX11_asks_63 rfl
theorem eX11_asks_64 : am_lim call mX11_asks 64 [l0, l1, l2, l3, l4] (S) σ = am_lim call mX11_asks 65 [l0, l1, l2, l3, l4] (.int (-1) :: S) σ := r_iconst dX11_asks_64 (by decide)
theorem eX11_asks_65 : am_lim call mX11_asks 65 [l0, l1, l2, l3, l4] (.int y :: .int x :: S) σ = if x ≠ y then am_lim call mX11_asks 161 [l0, l1, l2, l3, l4] (S) σ else am_lim call mX11_asks 68 [l0, l1, l2, l3, l4] (S) σ := r_icmpB 161 dX11_asks_65 (by decide) rfl
theorem eX11_asks_68 : am_lim call mX11_asks 68 [some (.ref a), l1, l2, l3, l4] (S) σ = am_lim call mX11_asks 69 [some (.ref a), l1, l2, l3, l4] (.ref a :: S) σ := r_aload_n dX11_asks_68 rfl
theorem eX11_asks_69 (h : g_o σ a 11) : am_lim call mX11_asks 69 [l0, l1, l2, l3, l4] (.ref a :: S) σ = am_lim call mX11_asks 72 [l0, l1, l2, l3, l4] (va_rf (g_R σ a 7) :: S) σ := r_getR dX11_asks_69 f_11_10 rfl h
theorem eX11_asks_72 : am_lim call mX11_asks 72 [l0, l1, l2, l3, some (.int x)] (S) σ = am_lim call mX11_asks 74 [l0, l1, l2, l3, some (.int x)] (.int x :: S) σ := r_iload dX11_asks_72 rfl
theorem eX11_asks_74 : am_lim call mX11_asks 74 [some (.ref a), l1, l2, l3, l4] (S) σ = am_lim call mX11_asks 75 [some (.ref a), l1, l2, l3, l4] (.ref a :: S) σ := r_aload_n dX11_asks_74 rfl
theorem eX11_asks_75 (h : g_o σ a 11) : am_lim call mX11_asks 75 [l0, l1, l2, l3, l4] (.ref a :: S) σ = am_lim call mX11_asks 78 [l0, l1, l2, l3, l4] (va_rf (g_R σ a 0) :: S) σ := r_getR dX11_asks_75 f_11_41 rfl h
theorem eX11_asks_78 (h : g_o σ a 3) : am_lim call mX11_asks 78 [l0, l1, l2, l3, l4] (.ref a :: S) σ = am_lim call mX11_asks 81 [l0, l1, l2, l3, l4] (va_rf (g_R σ a 1) :: S) σ := r_getR dX11_asks_78 f_11_111 rfl h
theorem eX11_asks_81 (h : g_o σ b 7) : am_lim call mX11_asks 81 [l0, l1, l2, l3, l4] (.ref p1 :: .int v0 :: .ref b :: []) σ = am_k (call mX7_wrap [.ref b, .int v0, .ref p1] σ) (fun r σ1 => am_lim call mX11_asks 84 [l0, l1, l2, l3, l4] (r.toList ++ []) σ1) := r_kV (S1 := [.ref p1, .int v0]) dX11_asks_81 mt_11_247 rfl h (Nat.le_of_ble_eq_true rfl)
theorem eX11_asks_84 : am_lim call mX11_asks 84 [some (.ref a), l1, l2, l3, l4] (S) σ = am_lim call mX11_asks 85 [some (.ref a), l1, l2, l3, l4] (.ref a :: S) σ := r_aload_n dX11_asks_84 rfl
theorem eX11_asks_85 (h : g_o σ a 11) : am_lim call mX11_asks 85 [l0, l1, l2, l3, l4] (.ref a :: S) σ = am_lim call mX11_asks 88 [l0, l1, l2, l3, l4] (va_rf (g_R σ a 2) :: S) σ := r_getR dX11_asks_85 f_11_50 rfl h
theorem eX11_asks_88 : am_lim call mX11_asks 88 [some (.ref a), l1, l2, l3, l4] (S) σ = am_lim call mX11_asks 89 [some (.ref a), l1, l2, l3, l4] (.ref a :: S) σ := r_aload_n dX11_asks_88 rfl
theorem eX11_asks_89 (h : g_o σ a 11) : am_lim call mX11_asks 89 [l0, l1, l2, l3, l4] (.ref a :: S) σ = am_lim call mX11_asks 92 [l0, l1, l2, l3, l4] (va_rf (g_R σ a 6) :: S) σ := r_getR dX11_asks_89 f_11_33 rfl h
theorem eX11_asks_92 : am_lim call mX11_asks 92 [some (.ref a), l1, l2, l3, l4] (S) σ = am_lim call mX11_asks 93 [some (.ref a), l1, l2, l3, l4] (.ref a :: S) σ := r_aload_n dX11_asks_92 rfl
theorem eX11_asks_93 (h : g_o σ a 11) : am_lim call mX11_asks 93 [l0, l1, l2, l3, l4] (.ref a :: S) σ = am_lim call mX11_asks 96 [l0, l1, l2, l3, l4] (va_rf (g_R σ a 7) :: S) σ := r_getR dX11_asks_93 f_11_10 rfl h
theorem eX11_asks_96 : am_lim call mX11_asks 96 [some (.ref a), l1, l2, l3, l4] (S) σ = am_lim call mX11_asks 97 [some (.ref a), l1, l2, l3, l4] (.ref a :: S) σ := r_aload_n dX11_asks_96 rfl
theorem eX11_asks_97 (h : g_o σ a 11) : am_lim call mX11_asks 97 [l0, l1, l2, l3, l4] (.ref a :: S) σ = am_lim call mX11_asks 100 [l0, l1, l2, l3, l4] (va_rf (g_R σ a 1) :: S) σ := r_getR dX11_asks_97 f_11_22 rfl h
theorem eX11_asks_100 : am_lim call mX11_asks 100 [l0, l1, l2, l3, l4] (S) σ = am_lim call mX11_asks 103 [l0, l1, l2, l3, l4] (.int 300 :: S) σ := r_sipush dX11_asks_100 (by decide)
theorem eX11_asks_103 : am_lim call mX11_asks 103 [l0, l1, l2, l3, l4] (S) σ = am_lim call mX11_asks 106 [l0, l1, l2, l3, l4] (.int 500 :: S) σ := r_sipush dX11_asks_103 (by decide)
theorem eX11_asks_106 : am_lim call mX11_asks 106 [l0, l1, l2, some (.int x), l4] (S) σ = am_lim call mX11_asks 107 [l0, l1, l2, some (.int x), l4] (.int x :: S) σ := r_iload_n dX11_asks_106 rfl
theorem eX11_asks_107 : am_lim call mX11_asks 107 [l0, l1, l2, l3, l4] (.int y :: .int x :: S) σ = am_lim call mX11_asks 108 [l0, l1, l2, l3, l4] (.int (x - y) :: S) σ := r_isub dX11_asks_107
theorem eX11_asks_108 : am_lim call mX11_asks 108 [l0, l1, l2, l3, l4] (.int y :: .int x :: .ref q0 :: .ref q1 :: .ref q2 :: .ref q3 :: []) σ = am_lim call mX11_asks 111 [l0, l1, l2, l3, l4] (.int (if y < x then y else x) :: .ref q0 :: .ref q1 :: .ref q2 :: .ref q3 :: []) σ := r_min dX11_asks_108 rfl rfl rfl (Nat.le_of_ble_eq_true rfl)
theorem eX11_asks_111 (h : g_o σ b 1) : am_lim call mX11_asks 111 [l0, l1, l2, l3, l4] (.int v3 :: .ref p2 :: .ref p1 :: .ref p0 :: .ref b :: []) σ = am_k (call mX1_startTerm [.ref b, .ref p0, .ref p1, .ref p2, .int v3] σ) (fun r σ1 => am_lim call mX11_asks 114 [l0, l1, l2, l3, l4] (r.toList ++ []) σ1) := r_kV (S1 := [.int v3, .ref p2, .ref p1, .ref p0]) dX11_asks_111 mt_11_100 rfl h (Nat.le_of_ble_eq_true rfl)
theorem eX11_asks_114 : am_lim call mX11_asks 114 [some (.ref a), l1, l2, l3, l4] (S) σ = am_lim call mX11_asks 115 [some (.ref a), l1, l2, l3, l4] (.ref a :: S) σ := r_aload_n dX11_asks_114 rfl
theorem eX11_asks_115 (h : g_o σ a 11) : am_lim call mX11_asks 115 [l0, l1, l2, l3, l4] (.ref a :: S) σ = am_lim call mX11_asks 118 [l0, l1, l2, l3, l4] (va_rf (g_R σ a 2) :: S) σ := r_getR dX11_asks_115 f_11_50 rfl h
theorem eX11_asks_118 (h : g_o σ b 1) : am_lim call mX11_asks 118 [l0, l1, l2, l3, l4] (.ref b :: []) σ = am_k (call mX1_run [.ref b] σ) (fun r σ1 => am_lim call mX11_asks 121 [l0, l1, l2, l3, l4] (r.toList ++ []) σ1) := r_kV (S1 := []) dX11_asks_118 mt_11_104 rfl h (Nat.le_of_ble_eq_true rfl)
theorem eX11_asks_121 : am_lim call mX11_asks 121 [l0, l1, l2, some (.int x), l4] (S) σ = am_lim call mX11_asks 122 [l0, l1, l2, some (.int x), l4] (.int x :: S) σ := r_iload_n dX11_asks_121 rfl
theorem eX11_asks_122 : am_lim call mX11_asks 122 [some (.ref a), l1, l2, l3, l4] (S) σ = am_lim call mX11_asks 123 [some (.ref a), l1, l2, l3, l4] (.ref a :: S) σ := r_aload_n dX11_asks_122 rfl
theorem eX11_asks_123 (h : g_o σ a 11) : am_lim call mX11_asks 123 [l0, l1, l2, l3, l4] (.ref a :: S) σ = am_lim call mX11_asks 126 [l0, l1, l2, l3, l4] (va_rf (g_R σ a 6) :: S) σ := r_getR dX11_asks_123 f_11_33 rfl h
theorem eX11_asks_126 (h : g_o σ a 2) : am_lim call mX11_asks 126 [l0, l1, l2, l3, l4] (.ref a :: S) σ = am_lim call mX11_asks 129 [l0, l1, l2, l3, l4] (.int (g_I σ a 4) :: S) σ := r_getI dX11_asks_126 f_11_122 rfl h
theorem eX11_asks_129 : am_lim call mX11_asks 129 [l0, l1, l2, l3, l4] (.int y :: .int x :: S) σ = am_lim call mX11_asks 130 [l0, l1, l2, l3, l4] (.int (x + y) :: S) σ := r_iadd dX11_asks_129
theorem eX11_asks_130 : am_lim call mX11_asks 130 [l0, l1, l2, l3, l4] (.int x :: S) σ = am_lim call mX11_asks 131 [l0, l1, l2, some (.int x), l4] (S) σ := r_istore_n dX11_asks_130 rfl rfl rfl rfl
theorem eX11_asks_131 : am_lim call mX11_asks 131 [some (.ref a), l1, l2, l3, l4] (S) σ = am_lim call mX11_asks 132 [some (.ref a), l1, l2, l3, l4] (.ref a :: S) σ := r_aload_n dX11_asks_131 rfl
theorem eX11_asks_132 (h : g_o σ a 11) : am_lim call mX11_asks 132 [l0, l1, l2, l3, l4] (.ref a :: S) σ = am_lim call mX11_asks 135 [l0, l1, l2, l3, l4] (va_rf (g_R σ a 6) :: S) σ := r_getR dX11_asks_132 f_11_33 rfl h
theorem eX11_asks_135 (h : g_o σ a 2) : am_lim call mX11_asks 135 [l0, l1, l2, l3, l4] (.ref a :: S) σ = am_lim call mX11_asks 138 [l0, l1, l2, l3, l4] (.int (g_I σ a 3) :: S) σ := r_getI dX11_asks_135 f_11_131 rfl h
theorem eX11_asks_138 : am_lim call mX11_asks 138 [l0, l1, l2, l3, l4] (.int x :: S) σ = if x ≠ 0 then am_lim call mX11_asks 153 [l0, l1, l2, l3, l4] (S) σ else am_lim call mX11_asks 141 [l0, l1, l2, l3, l4] (S) σ := r_ifB 153 dX11_asks_138 (by decide) rfl
theorem eX11_asks_141 : am_lim call mX11_asks 141 [some (.ref a), l1, l2, l3, l4] (S) σ = am_lim call mX11_asks 142 [some (.ref a), l1, l2, l3, l4] (.ref a :: S) σ := r_aload_n dX11_asks_141 rfl
theorem eX11_asks_142 (h : g_o σ a 11) : am_lim call mX11_asks 142 [l0, l1, l2, l3, l4] (.ref a :: S) σ = am_lim call mX11_asks 145 [l0, l1, l2, l3, l4] (va_rf (g_R σ a 7) :: S) σ := r_getR dX11_asks_142 f_11_10 rfl h
theorem eX11_asks_145 : am_lim call mX11_asks 145 [l0, l1, l2, l3, some (.int x)] (S) σ = am_lim call mX11_asks 147 [l0, l1, l2, l3, some (.int x)] (.int x :: S) σ := r_iload dX11_asks_145 rfl
theorem eX11_asks_147 (h : g_o σ b 7) : am_lim call mX11_asks 147 [l0, l1, l2, l3, l4] (.int v0 :: .ref b :: []) σ = am_k (call mX7_at [.ref b, .int v0] σ) (fun r σ1 => am_lim call mX11_asks 150 [l0, l1, l2, l3, l4] (r.toList ++ []) σ1) := r_kV (S1 := [.int v0]) dX11_asks_147 mt_11_254 rfl h (Nat.le_of_ble_eq_true rfl)
theorem eX11_asks_150 : am_lim call mX11_asks 150 [l0, l1, l2, l3, l4] (S) σ = am_lim call mX11_asks 154 [l0, l1, l2, l3, l4] (S) σ := r_goto 154 dX11_asks_150 (by decide)
theorem eX11_asks_154 : am_lim call mX11_asks 154 [l0, l1, l2, l3, l4] (.int x :: S) σ = am_lim call mX11_asks 155 [l0, l1, some (.int x), l3, l4] (S) σ := r_istore_n dX11_asks_154 rfl rfl rfl rfl
theorem eX11_asks_155 : am_lim call mX11_asks 155 [l0, l1, l2, l3, some (.int x)] (S) σ = am_lim call mX11_asks 158 [l0, l1, l2, l3, some (.int (x + 1))] (S) σ := r_iinc dX11_asks_155 rfl (by decide) rfl rfl rfl rfl
theorem eX11_asks_158 : am_lim call mX11_asks 158 [l0, l1, l2, l3, l4] (S) σ = am_lim call mX11_asks 44 [l0, l1, l2, l3, l4] (S) σ := r_goto 44 dX11_asks_158 (by decide)
theorem eX11_asks_153 : am_lim call mX11_asks 153 [l0, l1, l2, l3, l4] (S) σ = am_lim call mX11_asks 154 [l0, l1, l2, l3, l4] (.int (-1) :: S) σ := r_iconst dX11_asks_153 (by decide)
theorem eX11_asks_161 : am_lim call mX11_asks 161 [some (.ref a), l1, l2, l3, l4] (S) σ = am_lim call mX11_asks 162 [some (.ref a), l1, l2, l3, l4] (.ref a :: S) σ := r_aload_n dX11_asks_161 rfl
theorem eX11_asks_162 (h : g_o σ a 11) : am_lim call mX11_asks 162 [l0, l1, l2, l3, l4] (.ref a :: S) σ = am_lim call mX11_asks 165 [l0, l1, l2, l3, l4] (va_rf (g_R σ a 7) :: S) σ := r_getR dX11_asks_162 f_11_10 rfl h
theorem eX11_asks_165 (h : g_o σ b 7) : am_lim call mX11_asks 165 [l0, l1, l2, l3, l4] (.ref b :: []) σ = am_k (call mX7_unwrap [.ref b] σ) (fun r σ1 => am_lim call mX11_asks 168 [l0, l1, l2, l3, l4] (r.toList ++ []) σ1) := r_kV (S1 := []) dX11_asks_165 mt_11_257 rfl h (Nat.le_of_ble_eq_true rfl)
theorem eX11_asks_168 : am_lim call mX11_asks 168 [l0, l1, some (.int x), l3, l4] (S) σ = am_lim call mX11_asks 169 [l0, l1, some (.int x), l3, l4] (.int x :: S) σ := r_iload_n dX11_asks_168 rfl
theorem eX11_asks_169 : am_lim call mX11_asks 169 [l0, l1, l2, l3, l4] ([.int x]) σ = some (some (.int x), σ) := r_retI dX11_asks_169 rfl
theorem nX11_asks {d : Nat} : am_run (d + 1) mX11_asks [.ref b] σ = am_lim (am_run d) mX11_asks 0 [some (.ref b), none, none, none, none] [] σ := am_run_S rfl rfl rfl rfl
theorem dX12_asks_0 : decode cX12_asks 0 = .ok (.aload_n 0, 1) := by decide +kernel
theorem dX12_asks_1 : decode cX12_asks 1 = .ok (.iconst 0, 1) := by decide +kernel
theorem dX12_asks_2 : decode cX12_asks 2 = .ok (.putfield 113, 3) := by decide +kernel
theorem dX12_asks_5 : decode cX12_asks 5 = .ok (.aload_n 0, 1) := by decide +kernel
theorem dX12_asks_6 : decode cX12_asks 6 = .ok (.getfield 444, 3) := by decide +kernel
theorem dX12_asks_9 : decode cX12_asks 9 = .ok (.ifCond .ne 6, 3) := by decide +kernel
theorem dX12_asks_12 : decode cX12_asks 12 = .ok (.bipush (-2), 2) := by decide +kernel
theorem dX12_asks_14 : decode cX12_asks 14 = .ok (.ireturn, 1) := by decide +kernel
theorem dX12_asks_15 : decode cX12_asks 15 = .ok (.aload_n 0, 1) := by decide +kernel
theorem dX12_asks_16 : decode cX12_asks 16 = .ok (.iconst 1, 1) := by decide +kernel
theorem dX12_asks_17 : decode cX12_asks 17 = .ok (.invokevirtual 203, 3) := by decide +kernel
theorem dX12_asks_20 : decode cX12_asks 20 = .ok (.iconst (-1), 1) := by decide +kernel
theorem dX12_asks_21 : decode cX12_asks 21 = .ok (.if_icmp .eq 11, 3) := by decide +kernel
theorem dX12_asks_24 : decode cX12_asks 24 = .ok (.bipush (-3), 2) := by decide +kernel
theorem dX12_asks_26 : decode cX12_asks 26 = .ok (.aload_n 0, 1) := by decide +kernel
theorem dX12_asks_27 : decode cX12_asks 27 = .ok (.getfield 134, 3) := by decide +kernel
theorem dX12_asks_30 : decode cX12_asks 30 = .ok (.isub, 1) := by decide +kernel
theorem dX12_asks_31 : decode cX12_asks 31 = .ok (.ireturn, 1) := by decide +kernel
theorem dX12_asks_32 : decode cX12_asks 32 = .ok (.aload_n 0, 1) := by decide +kernel
theorem dX12_asks_33 : decode cX12_asks 33 = .ok (.iconst 0, 1) := by decide +kernel
theorem dX12_asks_34 : decode cX12_asks 34 = .ok (.putfield 116, 3) := by decide +kernel
theorem dX12_asks_37 : decode cX12_asks 37 = .ok (.aload_n 0, 1) := by decide +kernel
theorem dX12_asks_38 : decode cX12_asks 38 = .ok (.invokevirtual 512, 3) := by decide +kernel
theorem dX12_asks_41 : decode cX12_asks 41 = .ok (.sipush 500, 3) := by decide +kernel
theorem dX12_asks_44 : decode cX12_asks 44 = .ok (.istore_n 1, 1) := by decide +kernel
theorem dX12_asks_45 : decode cX12_asks 45 = .ok (.iconst (-1), 1) := by decide +kernel
theorem dX12_asks_46 : decode cX12_asks 46 = .ok (.istore_n 2, 1) := by decide +kernel
theorem dX12_asks_47 : decode cX12_asks 47 = .ok (.iconst 0, 1) := by decide +kernel
theorem dX12_asks_48 : decode cX12_asks 48 = .ok (.istore_n 3, 1) := by decide +kernel
theorem dX12_asks_49 : decode cX12_asks 49 = .ok (.iload_n 3, 1) := by decide +kernel
theorem dX12_asks_50 : decode cX12_asks 50 = .ok (.aload_n 0, 1) := by decide +kernel
theorem dX12_asks_51 : decode cX12_asks 51 = .ok (.getfield 441, 3) := by decide +kernel
theorem dX12_asks_54 : decode cX12_asks 54 = .ok (.if_icmp .ge 59, 3) := by decide +kernel
theorem dX12_asks_57 : decode cX12_asks 57 = .ok (.iload_n 2, 1) := by decide +kernel
theorem dX12_asks_58 : decode cX12_asks 58 = .ok (.iconst (-1), 1) := by decide +kernel
theorem dX12_asks_59 : decode cX12_asks 59 = .ok (.if_icmp .ne 54, 3) := by decide +kernel
theorem dX12_asks_62 : decode cX12_asks 62 = .ok (.sipush 300, 3) := by decide +kernel
theorem dX12_asks_65 : decode cX12_asks 65 = .ok (.iload_n 3, 1) := by decide +kernel
theorem dX12_asks_66 : decode cX12_asks 66 = .ok (.iadd, 1) := by decide +kernel
theorem dX12_asks_67 : decode cX12_asks 67 = .ok (.istore 4, 2) := by decide +kernel
theorem dX12_asks_69 : decode cX12_asks 69 = .ok (.aload_n 0, 1) := by decide +kernel
theorem dX12_asks_70 : decode cX12_asks 70 = .ok (.iload 4, 2) := by decide +kernel
theorem dX12_asks_72 : decode cX12_asks 72 = .ok (.iload_n 1, 1) := by decide +kernel
theorem dX12_asks_73 : decode cX12_asks 73 = .ok (.invokevirtual 518, 3) := by decide +kernel
theorem dX12_asks_76 : decode cX12_asks 76 = .ok (.istore 5, 2) := by decide +kernel
theorem dX12_asks_78 : decode cX12_asks 78 = .ok (.iload_n 1, 1) := by decide +kernel
theorem dX12_asks_79 : decode cX12_asks 79 = .ok (.aload_n 0, 1) := by decide +kernel
theorem dX12_asks_80 : decode cX12_asks 80 = .ok (.getfield 279, 3) := by decide +kernel
theorem dX12_asks_83 : decode cX12_asks 83 = .ok (.isub, 1) := by decide +kernel
theorem dX12_asks_84 : decode cX12_asks 84 = .ok (.istore_n 1, 1) := by decide +kernel
theorem dX12_asks_85 : decode cX12_asks 85 = .ok (.iload 5, 2) := by decide +kernel
theorem dX12_asks_87 : decode cX12_asks 87 = .ok (.iconst 3, 1) := by decide +kernel
theorem dX12_asks_88 : decode cX12_asks 88 = .ok (.if_icmp .ne 6, 3) := by decide +kernel
theorem dX12_asks_91 : decode cX12_asks 91 = .ok (.goto 22, 3) := by decide +kernel
theorem dX12_asks_94 : decode cX12_asks 94 = .ok (.iload 5, 2) := by decide +kernel
theorem dX12_asks_96 : decode cX12_asks 96 = .ok (.ifCond .ne 11, 3) := by decide +kernel
theorem dX12_asks_99 : decode cX12_asks 99 = .ok (.aload_n 0, 1) := by decide +kernel
theorem dX12_asks_100 : decode cX12_asks 100 = .ok (.iload 4, 2) := by decide +kernel
theorem dX12_asks_102 : decode cX12_asks 102 = .ok (.iconst 5, 1) := by decide +kernel
theorem dX12_asks_103 : decode cX12_asks 103 = .ok (.invokevirtual 206, 3) := by decide +kernel
theorem dX12_asks_106 : decode cX12_asks 106 = .ok (.istore_n 2, 1) := by decide +kernel
theorem dX12_asks_107 : decode cX12_asks 107 = .ok (.iinc 3 1, 3) := by decide +kernel
theorem dX12_asks_110 : decode cX12_asks 110 = .ok (.goto (-61), 3) := by decide +kernel
theorem dX12_asks_113 : decode cX12_asks 113 = .ok (.aload_n 0, 1) := by decide +kernel
theorem dX12_asks_114 : decode cX12_asks 114 = .ok (.invokevirtual 515, 3) := by decide +kernel
theorem dX12_asks_117 : decode cX12_asks 117 = .ok (.iload_n 2, 1) := by decide +kernel
theorem dX12_asks_118 : decode cX12_asks 118 = .ok (.ireturn, 1) := by decide +kernel
theorem eX12_asks_0 : am_lim call mX12_asks 0 [some (.ref a), l1, l2, l3, l4, l5] (S) σ = am_lim call mX12_asks 1 [some (.ref a), l1, l2, l3, l4, l5] (.ref a :: S) σ := r_aload_n dX12_asks_0 rfl
theorem eX12_asks_1 : am_lim call mX12_asks 1 [l0, l1, l2, l3, l4, l5] (S) σ = am_lim call mX12_asks 2 [l0, l1, l2, l3, l4, l5] (.int 0 :: S) σ := r_iconst dX12_asks_1 (by decide)
theorem eX12_asks_2 (h : g_o σ a 12) : am_lim call mX12_asks 2 [l0, l1, l2, l3, l4, l5] (.int x :: .ref a :: S) σ = am_lim call mX12_asks 5 [l0, l1, l2, l3, l4, l5] (S) (am_sI σ a 0 x) := r_putI dX12_asks_2 f_12_113 rfl rfl h
theorem eX12_asks_5 : am_lim call mX12_asks 5 [some (.ref a), l1, l2, l3, l4, l5] (S) σ = am_lim call mX12_asks 6 [some (.ref a), l1, l2, l3, l4, l5] (.ref a :: S) σ := r_aload_n dX12_asks_5 rfl
theorem eX12_asks_6 (h : g_o σ a 12) : am_lim call mX12_asks 6 [l0, l1, l2, l3, l4, l5] (.ref a :: S) σ = am_lim call mX12_asks 9 [l0, l1, l2, l3, l4, l5] (.int (g_I σ a 39) :: S) σ := r_getI dX12_asks_6 f_12_444 rfl h
theorem eX12_asks_9 : am_lim call mX12_asks 9 [l0, l1, l2, l3, l4, l5] (.int x :: S) σ = if x ≠ 0 then am_lim call mX12_asks 15 [l0, l1, l2, l3, l4, l5] (S) σ else am_lim call mX12_asks 12 [l0, l1, l2, l3, l4, l5] (S) σ := r_ifB 15 dX12_asks_9 (by decide) rfl
theorem eX12_asks_12 : am_lim call mX12_asks 12 [l0, l1, l2, l3, l4, l5] (S) σ = am_lim call mX12_asks 14 [l0, l1, l2, l3, l4, l5] (.int (-2) :: S) σ := r_bipush dX12_asks_12 (by decide)
theorem eX12_asks_14 : am_lim call mX12_asks 14 [l0, l1, l2, l3, l4, l5] ([.int x]) σ = some (some (.int x), σ) := r_retI dX12_asks_14 rfl
theorem eX12_asks_15 : am_lim call mX12_asks 15 [some (.ref a), l1, l2, l3, l4, l5] (S) σ = am_lim call mX12_asks 16 [some (.ref a), l1, l2, l3, l4, l5] (.ref a :: S) σ := r_aload_n dX12_asks_15 rfl
theorem eX12_asks_16 : am_lim call mX12_asks 16 [l0, l1, l2, l3, l4, l5] (S) σ = am_lim call mX12_asks 17 [l0, l1, l2, l3, l4, l5] (.int 1 :: S) σ := r_iconst dX12_asks_16 (by decide)
theorem eX12_asks_17 (h : g_o σ b 12) : am_lim call mX12_asks 17 [l0, l1, l2, l3, l4, l5] (.int v0 :: .ref b :: []) σ = am_k (call mX12_readsTypes [.ref b, .int v0] σ) (fun r σ1 => am_lim call mX12_asks 20 [l0, l1, l2, l3, l4, l5] (r.toList ++ []) σ1) := r_kV (S1 := [.int v0]) dX12_asks_17 mt_12_203 rfl h (Nat.le_of_ble_eq_true rfl)
theorem eX12_asks_20 : am_lim call mX12_asks 20 [l0, l1, l2, l3, l4, l5] (S) σ = am_lim call mX12_asks 21 [l0, l1, l2, l3, l4, l5] (.int (-1) :: S) σ := r_iconst dX12_asks_20 (by decide)
theorem eX12_asks_21 : am_lim call mX12_asks 21 [l0, l1, l2, l3, l4, l5] (.int y :: .int x :: S) σ = if x = y then am_lim call mX12_asks 32 [l0, l1, l2, l3, l4, l5] (S) σ else am_lim call mX12_asks 24 [l0, l1, l2, l3, l4, l5] (S) σ := r_icmpB 32 dX12_asks_21 (by decide) rfl
theorem eX12_asks_24 : am_lim call mX12_asks 24 [l0, l1, l2, l3, l4, l5] (S) σ = am_lim call mX12_asks 26 [l0, l1, l2, l3, l4, l5] (.int (-3) :: S) σ := r_bipush dX12_asks_24 (by decide)
theorem eX12_asks_26 : am_lim call mX12_asks 26 [some (.ref a), l1, l2, l3, l4, l5] (S) σ = am_lim call mX12_asks 27 [some (.ref a), l1, l2, l3, l4, l5] (.ref a :: S) σ := r_aload_n dX12_asks_26 rfl
theorem eX12_asks_27 (h : g_o σ a 12) : am_lim call mX12_asks 27 [l0, l1, l2, l3, l4, l5] (.ref a :: S) σ = am_lim call mX12_asks 30 [l0, l1, l2, l3, l4, l5] (.int (g_I σ a 4) :: S) σ := r_getI dX12_asks_27 f_12_134 rfl h
theorem eX12_asks_30 : am_lim call mX12_asks 30 [l0, l1, l2, l3, l4, l5] (.int y :: .int x :: S) σ = am_lim call mX12_asks 31 [l0, l1, l2, l3, l4, l5] (.int (x - y) :: S) σ := r_isub dX12_asks_30
theorem eX12_asks_31 : am_lim call mX12_asks 31 [l0, l1, l2, l3, l4, l5] ([.int x]) σ = some (some (.int x), σ) := r_retI dX12_asks_31 rfl
theorem eX12_asks_32 : am_lim call mX12_asks 32 [some (.ref a), l1, l2, l3, l4, l5] (S) σ = am_lim call mX12_asks 33 [some (.ref a), l1, l2, l3, l4, l5] (.ref a :: S) σ := r_aload_n dX12_asks_32 rfl
theorem eX12_asks_33 : am_lim call mX12_asks 33 [l0, l1, l2, l3, l4, l5] (S) σ = am_lim call mX12_asks 34 [l0, l1, l2, l3, l4, l5] (.int 0 :: S) σ := r_iconst dX12_asks_33 (by decide)
theorem eX12_asks_34 (h : g_o σ a 12) : am_lim call mX12_asks 34 [l0, l1, l2, l3, l4, l5] (.int x :: .ref a :: S) σ = am_lim call mX12_asks 37 [l0, l1, l2, l3, l4, l5] (S) (am_sI σ a 2 x) := r_putI dX12_asks_34 f_12_116 rfl rfl h
theorem eX12_asks_37 : am_lim call mX12_asks 37 [some (.ref a), l1, l2, l3, l4, l5] (S) σ = am_lim call mX12_asks 38 [some (.ref a), l1, l2, l3, l4, l5] (.ref a :: S) σ := r_aload_n dX12_asks_37 rfl
theorem eX12_asks_38 (h : g_o σ b 12) : am_lim call mX12_asks 38 [l0, l1, l2, l3, l4, l5] (.ref b :: []) σ = am_k (call mX12_laysAside [.ref b] σ) (fun r σ1 => am_lim call mX12_asks 41 [l0, l1, l2, l3, l4, l5] (r.toList ++ []) σ1) := r_kV (S1 := []) dX12_asks_38 mt_12_512 rfl h (Nat.le_of_ble_eq_true rfl)
theorem eX12_asks_41 : am_lim call mX12_asks 41 [l0, l1, l2, l3, l4, l5] (S) σ = am_lim call mX12_asks 44 [l0, l1, l2, l3, l4, l5] (.int 500 :: S) σ := r_sipush dX12_asks_41 (by decide)
theorem eX12_asks_44 : am_lim call mX12_asks 44 [l0, l1, l2, l3, l4, l5] (.int x :: S) σ = am_lim call mX12_asks 45 [l0, some (.int x), l2, l3, l4, l5] (S) σ := r_istore_n dX12_asks_44 rfl rfl rfl rfl
theorem eX12_asks_45 : am_lim call mX12_asks 45 [l0, l1, l2, l3, l4, l5] (S) σ = am_lim call mX12_asks 46 [l0, l1, l2, l3, l4, l5] (.int (-1) :: S) σ := r_iconst dX12_asks_45 (by decide)
theorem eX12_asks_46 : am_lim call mX12_asks 46 [l0, l1, l2, l3, l4, l5] (.int x :: S) σ = am_lim call mX12_asks 47 [l0, l1, some (.int x), l3, l4, l5] (S) σ := r_istore_n dX12_asks_46 rfl rfl rfl rfl
theorem eX12_asks_47 : am_lim call mX12_asks 47 [l0, l1, l2, l3, l4, l5] (S) σ = am_lim call mX12_asks 48 [l0, l1, l2, l3, l4, l5] (.int 0 :: S) σ := r_iconst dX12_asks_47 (by decide)
theorem eX12_asks_48 : am_lim call mX12_asks 48 [l0, l1, l2, l3, l4, l5] (.int x :: S) σ = am_lim call mX12_asks 49 [l0, l1, l2, some (.int x), l4, l5] (S) σ := r_istore_n dX12_asks_48 rfl rfl rfl rfl
theorem eX12_asks_49 : am_lim call mX12_asks 49 [l0, l1, l2, some (.int x), l4, l5] (S) σ = am_lim call mX12_asks 50 [l0, l1, l2, some (.int x), l4, l5] (.int x :: S) σ := r_iload_n dX12_asks_49 rfl
theorem eX12_asks_50 : am_lim call mX12_asks 50 [some (.ref a), l1, l2, l3, l4, l5] (S) σ = am_lim call mX12_asks 51 [some (.ref a), l1, l2, l3, l4, l5] (.ref a :: S) σ := r_aload_n dX12_asks_50 rfl
theorem eX12_asks_51 (h : g_o σ a 12) : am_lim call mX12_asks 51 [l0, l1, l2, l3, l4, l5] (.ref a :: S) σ = am_lim call mX12_asks 54 [l0, l1, l2, l3, l4, l5] (.int (g_I σ a 50) :: S) σ := r_getI dX12_asks_51 f_12_441 rfl h
theorem eX12_asks_54 : am_lim call mX12_asks 54 [l0, l1, l2, l3, l4, l5] (.int y :: .int x :: S) σ = if y ≤ x then am_lim call mX12_asks 113 [l0, l1, l2, l3, l4, l5] (S) σ else am_lim call mX12_asks 57 [l0, l1, l2, l3, l4, l5] (S) σ := r_icmpB 113 dX12_asks_54 (by decide) rfl
theorem eX12_asks_57 : am_lim call mX12_asks 57 [l0, l1, some (.int x), l3, l4, l5] (S) σ = am_lim call mX12_asks 58 [l0, l1, some (.int x), l3, l4, l5] (.int x :: S) σ := r_iload_n dX12_asks_57 rfl
theorem eX12_asks_58 : am_lim call mX12_asks 58 [l0, l1, l2, l3, l4, l5] (S) σ = am_lim call mX12_asks 59 [l0, l1, l2, l3, l4, l5] (.int (-1) :: S) σ := r_iconst dX12_asks_58 (by decide)
theorem eX12_asks_59 : am_lim call mX12_asks 59 [l0, l1, l2, l3, l4, l5] (.int y :: .int x :: S) σ = if x ≠ y then am_lim call mX12_asks 113 [l0, l1, l2, l3, l4, l5] (S) σ else am_lim call mX12_asks 62 [l0, l1, l2, l3, l4, l5] (S) σ := r_icmpB 113 dX12_asks_59 (by decide) rfl
theorem eX12_asks_62 : am_lim call mX12_asks 62 [l0, l1, l2, l3, l4, l5] (S) σ = am_lim call mX12_asks 65 [l0, l1, l2, l3, l4, l5] (.int 300 :: S) σ := r_sipush dX12_asks_62 (by decide)
theorem eX12_asks_65 : am_lim call mX12_asks 65 [l0, l1, l2, some (.int x), l4, l5] (S) σ = am_lim call mX12_asks 66 [l0, l1, l2, some (.int x), l4, l5] (.int x :: S) σ := r_iload_n dX12_asks_65 rfl
theorem eX12_asks_66 : am_lim call mX12_asks 66 [l0, l1, l2, l3, l4, l5] (.int y :: .int x :: S) σ = am_lim call mX12_asks 67 [l0, l1, l2, l3, l4, l5] (.int (x + y) :: S) σ := r_iadd dX12_asks_66
theorem eX12_asks_67 : am_lim call mX12_asks 67 [l0, l1, l2, l3, l4, l5] (.int x :: S) σ = am_lim call mX12_asks 69 [l0, l1, l2, l3, some (.int x), l5] (S) σ := r_istore dX12_asks_67 rfl rfl rfl rfl
theorem eX12_asks_69 : am_lim call mX12_asks 69 [some (.ref a), l1, l2, l3, l4, l5] (S) σ = am_lim call mX12_asks 70 [some (.ref a), l1, l2, l3, l4, l5] (.ref a :: S) σ := r_aload_n dX12_asks_69 rfl
theorem eX12_asks_70 : am_lim call mX12_asks 70 [l0, l1, l2, l3, some (.int x), l5] (S) σ = am_lim call mX12_asks 72 [l0, l1, l2, l3, some (.int x), l5] (.int x :: S) σ := r_iload dX12_asks_70 rfl
theorem eX12_asks_72 : am_lim call mX12_asks 72 [l0, some (.int x), l2, l3, l4, l5] (S) σ = am_lim call mX12_asks 73 [l0, some (.int x), l2, l3, l4, l5] (.int x :: S) σ := r_iload_n dX12_asks_72 rfl
theorem eX12_asks_73 (h : g_o σ b 12) : am_lim call mX12_asks 73 [l0, l1, l2, l3, l4, l5] (.int v1 :: .int v0 :: .ref b :: []) σ = am_k (call mX12_judgesNoted [.ref b, .int v0, .int v1] σ) (fun r σ1 => am_lim call mX12_asks 76 [l0, l1, l2, l3, l4, l5] (r.toList ++ []) σ1) := r_kV (S1 := [.int v1, .int v0]) dX12_asks_73 mt_12_518 rfl h (Nat.le_of_ble_eq_true rfl)
theorem eX12_asks_76 : am_lim call mX12_asks 76 [l0, l1, l2, l3, l4, l5] (.int x :: S) σ = am_lim call mX12_asks 78 [l0, l1, l2, l3, l4, some (.int x)] (S) σ := r_istore dX12_asks_76 rfl rfl rfl rfl
theorem eX12_asks_78 : am_lim call mX12_asks 78 [l0, some (.int x), l2, l3, l4, l5] (S) σ = am_lim call mX12_asks 79 [l0, some (.int x), l2, l3, l4, l5] (.int x :: S) σ := r_iload_n dX12_asks_78 rfl
theorem eX12_asks_79 : am_lim call mX12_asks 79 [some (.ref a), l1, l2, l3, l4, l5] (S) σ = am_lim call mX12_asks 80 [some (.ref a), l1, l2, l3, l4, l5] (.ref a :: S) σ := r_aload_n dX12_asks_79 rfl
theorem eX12_asks_80 (h : g_o σ a 12) : am_lim call mX12_asks 80 [l0, l1, l2, l3, l4, l5] (.ref a :: S) σ = am_lim call mX12_asks 83 [l0, l1, l2, l3, l4, l5] (.int (g_I σ a 30) :: S) σ := r_getI dX12_asks_80 f_12_279 rfl h
theorem eX12_asks_83 : am_lim call mX12_asks 83 [l0, l1, l2, l3, l4, l5] (.int y :: .int x :: S) σ = am_lim call mX12_asks 84 [l0, l1, l2, l3, l4, l5] (.int (x - y) :: S) σ := r_isub dX12_asks_83
theorem eX12_asks_84 : am_lim call mX12_asks 84 [l0, l1, l2, l3, l4, l5] (.int x :: S) σ = am_lim call mX12_asks 85 [l0, some (.int x), l2, l3, l4, l5] (S) σ := r_istore_n dX12_asks_84 rfl rfl rfl rfl
theorem eX12_asks_85 : am_lim call mX12_asks 85 [l0, l1, l2, l3, l4, some (.int x)] (S) σ = am_lim call mX12_asks 87 [l0, l1, l2, l3, l4, some (.int x)] (.int x :: S) σ := r_iload dX12_asks_85 rfl
theorem eX12_asks_87 : am_lim call mX12_asks 87 [l0, l1, l2, l3, l4, l5] (S) σ = am_lim call mX12_asks 88 [l0, l1, l2, l3, l4, l5] (.int 3 :: S) σ := r_iconst dX12_asks_87 (by decide)
theorem eX12_asks_88 : am_lim call mX12_asks 88 [l0, l1, l2, l3, l4, l5] (.int y :: .int x :: S) σ = if x ≠ y then am_lim call mX12_asks 94 [l0, l1, l2, l3, l4, l5] (S) σ else am_lim call mX12_asks 91 [l0, l1, l2, l3, l4, l5] (S) σ := r_icmpB 94 dX12_asks_88 (by decide) rfl
theorem eX12_asks_91 : am_lim call mX12_asks 91 [l0, l1, l2, l3, l4, l5] (S) σ = am_lim call mX12_asks 113 [l0, l1, l2, l3, l4, l5] (S) σ := r_goto 113 dX12_asks_91 (by decide)
theorem eX12_asks_94 : am_lim call mX12_asks 94 [l0, l1, l2, l3, l4, some (.int x)] (S) σ = am_lim call mX12_asks 96 [l0, l1, l2, l3, l4, some (.int x)] (.int x :: S) σ := r_iload dX12_asks_94 rfl
theorem eX12_asks_96 : am_lim call mX12_asks 96 [l0, l1, l2, l3, l4, l5] (.int x :: S) σ = if x ≠ 0 then am_lim call mX12_asks 107 [l0, l1, l2, l3, l4, l5] (S) σ else am_lim call mX12_asks 99 [l0, l1, l2, l3, l4, l5] (S) σ := r_ifB 107 dX12_asks_96 (by decide) rfl
theorem eX12_asks_99 : am_lim call mX12_asks 99 [some (.ref a), l1, l2, l3, l4, l5] (S) σ = am_lim call mX12_asks 100 [some (.ref a), l1, l2, l3, l4, l5] (.ref a :: S) σ := r_aload_n dX12_asks_99 rfl
theorem eX12_asks_100 : am_lim call mX12_asks 100 [l0, l1, l2, l3, some (.int x), l5] (S) σ = am_lim call mX12_asks 102 [l0, l1, l2, l3, some (.int x), l5] (.int x :: S) σ := r_iload dX12_asks_100 rfl
theorem eX12_asks_102 : am_lim call mX12_asks 102 [l0, l1, l2, l3, l4, l5] (S) σ = am_lim call mX12_asks 103 [l0, l1, l2, l3, l4, l5] (.int 5 :: S) σ := r_iconst dX12_asks_102 (by decide)
theorem eX12_asks_103 (h : g_o σ b 12) : am_lim call mX12_asks 103 [l0, l1, l2, l3, l4, l5] (.int v1 :: .int v0 :: .ref b :: []) σ = am_k (call mX12_of [.ref b, .int v0, .int v1] σ) (fun r σ1 => am_lim call mX12_asks 106 [l0, l1, l2, l3, l4, l5] (r.toList ++ []) σ1) := r_kV (S1 := [.int v1, .int v0]) dX12_asks_103 mt_12_206 rfl h (Nat.le_of_ble_eq_true rfl)
theorem eX12_asks_106 : am_lim call mX12_asks 106 [l0, l1, l2, l3, l4, l5] (.int x :: S) σ = am_lim call mX12_asks 107 [l0, l1, some (.int x), l3, l4, l5] (S) σ := r_istore_n dX12_asks_106 rfl rfl rfl rfl
theorem eX12_asks_107 : am_lim call mX12_asks 107 [l0, l1, l2, some (.int x), l4, l5] (S) σ = am_lim call mX12_asks 110 [l0, l1, l2, some (.int (x + 1)), l4, l5] (S) σ := r_iinc dX12_asks_107 rfl (by decide) rfl rfl rfl rfl
theorem eX12_asks_110 : am_lim call mX12_asks 110 [l0, l1, l2, l3, l4, l5] (S) σ = am_lim call mX12_asks 49 [l0, l1, l2, l3, l4, l5] (S) σ := r_goto 49 dX12_asks_110 (by decide)
theorem eX12_asks_113 : am_lim call mX12_asks 113 [some (.ref a), l1, l2, l3, l4, l5] (S) σ = am_lim call mX12_asks 114 [some (.ref a), l1, l2, l3, l4, l5] (.ref a :: S) σ := r_aload_n dX12_asks_113 rfl
theorem eX12_asks_114 (h : g_o σ b 12) : am_lim call mX12_asks 114 [l0, l1, l2, l3, l4, l5] (.ref b :: []) σ = am_k (call mX12_takesBack [.ref b] σ) (fun r σ1 => am_lim call mX12_asks 117 [l0, l1, l2, l3, l4, l5] (r.toList ++ []) σ1) := r_kV (S1 := []) dX12_asks_114 mt_12_515 rfl h (Nat.le_of_ble_eq_true rfl)
theorem eX12_asks_117 : am_lim call mX12_asks 117 [l0, l1, some (.int x), l3, l4, l5] (S) σ = am_lim call mX12_asks 118 [l0, l1, some (.int x), l3, l4, l5] (.int x :: S) σ := r_iload_n dX12_asks_117 rfl
theorem eX12_asks_118 : am_lim call mX12_asks 118 [l0, l1, l2, l3, l4, l5] ([.int x]) σ = some (some (.int x), σ) := r_retI dX12_asks_118 rfl
theorem nX12_asks {d : Nat} : am_run (d + 1) mX12_asks [.ref b] σ = am_lim (am_run d) mX12_asks 0 [some (.ref b), none, none, none, none, none] [] σ := am_run_S rfl rfl rfl rfl
theorem dX11_end_0 : decode cX11_end 0 = .ok (.iload_n 1, 1) := by decide +kernel
theorem dX11_end_1 : decode cX11_end 1 = .ok (.ifCond .lt 14, 3) := by decide +kernel
theorem dX11_end_4 : decode cX11_end 4 = .ok (.iload_n 1, 1) := by decide +kernel
theorem dX11_end_5 : decode cX11_end 5 = .ok (.aload_n 0, 1) := by decide +kernel
theorem dX11_end_6 : decode cX11_end 6 = .ok (.getfield 41, 3) := by decide +kernel
theorem dX11_end_9 : decode cX11_end 9 = .ok (.getfield 86, 3) := by decide +kernel
theorem dX11_end_12 : decode cX11_end 12 = .ok (.if_icmp .le 5, 3) := by decide +kernel
theorem dX11_end_15 : decode cX11_end 15 = .ok (.iconst 0, 1) := by decide +kernel
theorem dX11_end_16 : decode cX11_end 16 = .ok (.ireturn, 1) := by decide +kernel
theorem dX11_end_17 : decode cX11_end 17 = .ok (.aload_n 0, 1) := by decide +kernel
theorem dX11_end_18 : decode cX11_end 18 = .ok (.getfield 41, 3) := by decide +kernel
theorem dX11_end_21 : decode cX11_end 21 = .ok (.iload_n 1, 1) := by decide +kernel
theorem dX11_end_22 : decode cX11_end 22 = .ok (.putfield 86, 3) := by decide +kernel
theorem dX11_end_25 : decode cX11_end 25 = .ok (.iconst 1, 1) := by decide +kernel
theorem dX11_end_26 : decode cX11_end 26 = .ok (.ireturn, 1) := by decide +kernel
theorem eX11_end_0 : am_lim call mX11_end 0 [l0, some (.int x)] (S) σ = am_lim call mX11_end 1 [l0, some (.int x)] (.int x :: S) σ := r_iload_n dX11_end_0 rfl
theorem eX11_end_1 : am_lim call mX11_end 1 [l0, l1] (.int x :: S) σ = if x < 0 then am_lim call mX11_end 15 [l0, l1] (S) σ else am_lim call mX11_end 4 [l0, l1] (S) σ := r_ifB 15 dX11_end_1 (by decide) rfl
theorem eX11_end_4 : am_lim call mX11_end 4 [l0, some (.int x)] (S) σ = am_lim call mX11_end 5 [l0, some (.int x)] (.int x :: S) σ := r_iload_n dX11_end_4 rfl
theorem eX11_end_5 : am_lim call mX11_end 5 [some (.ref a), l1] (S) σ = am_lim call mX11_end 6 [some (.ref a), l1] (.ref a :: S) σ := r_aload_n dX11_end_5 rfl
theorem eX11_end_6 (h : g_o σ a 11) : am_lim call mX11_end 6 [l0, l1] (.ref a :: S) σ = am_lim call mX11_end 9 [l0, l1] (va_rf (g_R σ a 0) :: S) σ := r_getR dX11_end_6 f_11_41 rfl h
theorem eX11_end_9 (h : g_o σ a 3) : am_lim call mX11_end 9 [l0, l1] (.ref a :: S) σ = am_lim call mX11_end 12 [l0, l1] (.int (g_I σ a 0) :: S) σ := r_getI dX11_end_9 f_11_86 rfl h
theorem eX11_end_12 : am_lim call mX11_end 12 [l0, l1] (.int y :: .int x :: S) σ = if x ≤ y then am_lim call mX11_end 17 [l0, l1] (S) σ else am_lim call mX11_end 15 [l0, l1] (S) σ := r_icmpB 17 dX11_end_12 (by decide) rfl
theorem eX11_end_17 : am_lim call mX11_end 17 [some (.ref a), l1] (S) σ = am_lim call mX11_end 18 [some (.ref a), l1] (.ref a :: S) σ := r_aload_n dX11_end_17 rfl
theorem eX11_end_18 (h : g_o σ a 11) : am_lim call mX11_end 18 [l0, l1] (.ref a :: S) σ = am_lim call mX11_end 21 [l0, l1] (va_rf (g_R σ a 0) :: S) σ := r_getR dX11_end_18 f_11_41 rfl h
theorem eX11_end_21 : am_lim call mX11_end 21 [l0, some (.int x)] (S) σ = am_lim call mX11_end 22 [l0, some (.int x)] (.int x :: S) σ := r_iload_n dX11_end_21 rfl
theorem eX11_end_22 (h : g_o σ a 3) : am_lim call mX11_end 22 [l0, l1] (.int x :: .ref a :: S) σ = am_lim call mX11_end 25 [l0, l1] (S) (am_sI σ a 0 x) := r_putI dX11_end_22 f_11_86 rfl rfl h
theorem eX11_end_25 : am_lim call mX11_end 25 [l0, l1] (S) σ = am_lim call mX11_end 26 [l0, l1] (.int 1 :: S) σ := r_iconst dX11_end_25 (by decide)
theorem eX11_end_26 (hx : x = 0 ∨ x = 1) : am_lim call mX11_end 26 [l0, l1] ([.int x]) σ = some (some (.int x), σ) := r_retZ dX11_end_26 rfl hx
theorem eX11_end_15 : am_lim call mX11_end 15 [l0, l1] (S) σ = am_lim call mX11_end 16 [l0, l1] (.int 0 :: S) σ := r_iconst dX11_end_15 (by decide)
theorem eX11_end_16 (hx : x = 0 ∨ x = 1) : am_lim call mX11_end 16 [l0, l1] ([.int x]) σ = some (some (.int x), σ) := r_retZ dX11_end_16 rfl hx
theorem nX11_end {d : Nat} : am_run (d + 1) mX11_end [.ref b, .int v0] σ = am_lim (am_run d) mX11_end 0 [some (.ref b), some (.int v0)] [] σ := am_run_S rfl rfl rfl rfl
theorem dX12_end_0 : decode cX12_end 0 = .ok (.aload_n 0, 1) := by decide +kernel
theorem dX12_end_1 : decode cX12_end 1 = .ok (.iconst 0, 1) := by decide +kernel
theorem dX12_end_2 : decode cX12_end 2 = .ok (.putfield 113, 3) := by decide +kernel
theorem dX12_end_5 : decode cX12_end 5 = .ok (.iload_n 1, 1) := by decide +kernel
theorem dX12_end_6 : decode cX12_end 6 = .ok (.ifCond .lt 11, 3) := by decide +kernel
theorem dX12_end_9 : decode cX12_end 9 = .ok (.iload_n 1, 1) := by decide +kernel
theorem dX12_end_10 : decode cX12_end 10 = .ok (.aload_n 0, 1) := by decide +kernel
theorem dX12_end_11 : decode cX12_end 11 = .ok (.getfield 116, 3) := by decide +kernel
theorem dX12_end_14 : decode cX12_end 14 = .ok (.if_icmp .le 5, 3) := by decide +kernel
theorem dX12_end_17 : decode cX12_end 17 = .ok (.iconst 0, 1) := by decide +kernel
theorem dX12_end_18 : decode cX12_end 18 = .ok (.ireturn, 1) := by decide +kernel
theorem dX12_end_19 : decode cX12_end 19 = .ok (.aload_n 0, 1) := by decide +kernel
theorem dX12_end_20 : decode cX12_end 20 = .ok (.iload_n 1, 1) := by decide +kernel
theorem dX12_end_21 : decode cX12_end 21 = .ok (.putfield 116, 3) := by decide +kernel
theorem dX12_end_24 : decode cX12_end 24 = .ok (.iconst 1, 1) := by decide +kernel
theorem dX12_end_25 : decode cX12_end 25 = .ok (.ireturn, 1) := by decide +kernel
theorem eX12_end_0 : am_lim call mX12_end 0 [some (.ref a), l1] (S) σ = am_lim call mX12_end 1 [some (.ref a), l1] (.ref a :: S) σ := r_aload_n dX12_end_0 rfl
theorem eX12_end_1 : am_lim call mX12_end 1 [l0, l1] (S) σ = am_lim call mX12_end 2 [l0, l1] (.int 0 :: S) σ := r_iconst dX12_end_1 (by decide)
theorem eX12_end_2 (h : g_o σ a 12) : am_lim call mX12_end 2 [l0, l1] (.int x :: .ref a :: S) σ = am_lim call mX12_end 5 [l0, l1] (S) (am_sI σ a 0 x) := r_putI dX12_end_2 f_12_113 rfl rfl h
theorem eX12_end_5 : am_lim call mX12_end 5 [l0, some (.int x)] (S) σ = am_lim call mX12_end 6 [l0, some (.int x)] (.int x :: S) σ := r_iload_n dX12_end_5 rfl
theorem eX12_end_6 : am_lim call mX12_end 6 [l0, l1] (.int x :: S) σ = if x < 0 then am_lim call mX12_end 17 [l0, l1] (S) σ else am_lim call mX12_end 9 [l0, l1] (S) σ := r_ifB 17 dX12_end_6 (by decide) rfl
theorem eX12_end_9 : am_lim call mX12_end 9 [l0, some (.int x)] (S) σ = am_lim call mX12_end 10 [l0, some (.int x)] (.int x :: S) σ := r_iload_n dX12_end_9 rfl
theorem eX12_end_10 : am_lim call mX12_end 10 [some (.ref a), l1] (S) σ = am_lim call mX12_end 11 [some (.ref a), l1] (.ref a :: S) σ := r_aload_n dX12_end_10 rfl
theorem eX12_end_11 (h : g_o σ a 12) : am_lim call mX12_end 11 [l0, l1] (.ref a :: S) σ = am_lim call mX12_end 14 [l0, l1] (.int (g_I σ a 2) :: S) σ := r_getI dX12_end_11 f_12_116 rfl h
theorem eX12_end_14 : am_lim call mX12_end 14 [l0, l1] (.int y :: .int x :: S) σ = if x ≤ y then am_lim call mX12_end 19 [l0, l1] (S) σ else am_lim call mX12_end 17 [l0, l1] (S) σ := r_icmpB 19 dX12_end_14 (by decide) rfl
theorem eX12_end_19 : am_lim call mX12_end 19 [some (.ref a), l1] (S) σ = am_lim call mX12_end 20 [some (.ref a), l1] (.ref a :: S) σ := r_aload_n dX12_end_19 rfl
theorem eX12_end_20 : am_lim call mX12_end 20 [l0, some (.int x)] (S) σ = am_lim call mX12_end 21 [l0, some (.int x)] (.int x :: S) σ := r_iload_n dX12_end_20 rfl
theorem eX12_end_21 (h : g_o σ a 12) : am_lim call mX12_end 21 [l0, l1] (.int x :: .ref a :: S) σ = am_lim call mX12_end 24 [l0, l1] (S) (am_sI σ a 2 x) := r_putI dX12_end_21 f_12_116 rfl rfl h
theorem eX12_end_24 : am_lim call mX12_end 24 [l0, l1] (S) σ = am_lim call mX12_end 25 [l0, l1] (.int 1 :: S) σ := r_iconst dX12_end_24 (by decide)
theorem eX12_end_25 (hx : x = 0 ∨ x = 1) : am_lim call mX12_end 25 [l0, l1] ([.int x]) σ = some (some (.int x), σ) := r_retZ dX12_end_25 rfl hx
theorem eX12_end_17 : am_lim call mX12_end 17 [l0, l1] (S) σ = am_lim call mX12_end 18 [l0, l1] (.int 0 :: S) σ := r_iconst dX12_end_17 (by decide)
theorem eX12_end_18 (hx : x = 0 ∨ x = 1) : am_lim call mX12_end 18 [l0, l1] ([.int x]) σ = some (some (.int x), σ) := r_retZ dX12_end_18 rfl hx
theorem nX12_end {d : Nat} : am_run (d + 1) mX12_end [.ref b, .int v0] σ = am_lim (am_run d) mX12_end 0 [some (.ref b), some (.int v0)] [] σ := am_run_S rfl rfl rfl rfl
theorem dX11_keeps_0 : decode cX11_keeps 0 = .ok (.aload_n 0, 1) := by decide +kernel
theorem dX11_keeps_1 : decode cX11_keeps 1 = .ok (.getfield 29, 3) := by decide +kernel
theorem dX11_keeps_4 : decode cX11_keeps 4 = .ok (.invokevirtual 197, 3) := by decide +kernel
theorem dX11_keeps_7 : decode cX11_keeps 7 = .ok (.ifCond .eq 14, 3) := by decide +kernel
theorem dX11_keeps_10 : decode cX11_keeps 10 = .ok (.aload_n 0, 1) := by decide +kernel
theorem dX11_keeps_11 : decode cX11_keeps 11 = .ok (.getfield 22, 3) := by decide +kernel
theorem dX11_keeps_14 : decode cX11_keeps 14 = .ok (.iload_n 1, 1) := by decide +kernel
theorem dX11_keeps_15 : decode cX11_keeps 15 = .ok (.invokevirtual 201, 3) := by decide +kernel
theorem dX11_keeps_18 : decode cX11_keeps 18 = .ok (.ifCond .ne 5, 3) := by decide +kernel
theorem dX11_keeps_21 : decode cX11_keeps 21 = .ok (.iconst (-1), 1) := by decide +kernel
theorem dX11_keeps_22 : decode cX11_keeps 22 = .ok (.ireturn, 1) := by decide +kernel
theorem dX11_keeps_23 : decode cX11_keeps 23 = .ok (.aload_n 0, 1) := by decide +kernel
theorem dX11_keeps_24 : decode cX11_keeps 24 = .ok (.getfield 66, 3) := by decide +kernel
theorem dX11_keeps_27 : decode cX11_keeps 27 = .ok (.aload_n 0, 1) := by decide +kernel
theorem dX11_keeps_28 : decode cX11_keeps 28 = .ok (.getfield 29, 3) := by decide +kernel
theorem dX11_keeps_31 : decode cX11_keeps 31 = .ok (.getfield 134, 3) := by decide +kernel
theorem dX11_keeps_34 : decode cX11_keeps 34 = .ok (.invokevirtual 158, 3) := by decide +kernel
theorem dX11_keeps_37 : decode cX11_keeps 37 = .ok (.istore_n 2, 1) := by decide +kernel
theorem dX11_keeps_38 : decode cX11_keeps 38 = .ok (.aload_n 0, 1) := by decide +kernel
theorem dX11_keeps_39 : decode cX11_keeps 39 = .ok (.getfield 66, 3) := by decide +kernel
theorem dX11_keeps_42 : decode cX11_keeps 42 = .ok (.aload_n 0, 1) := by decide +kernel
theorem dX11_keeps_43 : decode cX11_keeps 43 = .ok (.getfield 29, 3) := by decide +kernel
theorem dX11_keeps_46 : decode cX11_keeps 46 = .ok (.getfield 134, 3) := by decide +kernel
theorem dX11_keeps_49 : decode cX11_keeps 49 = .ok (.aload_n 0, 1) := by decide +kernel
theorem dX11_keeps_50 : decode cX11_keeps 50 = .ok (.getfield 22, 3) := by decide +kernel
theorem dX11_keeps_53 : decode cX11_keeps 53 = .ok (.iload_n 1, 1) := by decide +kernel
theorem dX11_keeps_54 : decode cX11_keeps 54 = .ok (.aload_n 0, 1) := by decide +kernel
theorem dX11_keeps_55 : decode cX11_keeps 55 = .ok (.getfield 10, 3) := by decide +kernel
theorem dX11_keeps_58 : decode cX11_keeps 58 = .ok (.iload_n 2, 1) := by decide +kernel
theorem dX11_keeps_59 : decode cX11_keeps 59 = .ok (.invokevirtual 205, 3) := by decide +kernel
theorem dX11_keeps_62 : decode cX11_keeps 62 = .ok (.invokevirtual 208, 3) := by decide +kernel
theorem dX11_keeps_65 : decode cX11_keeps 65 = .ok (.aload_n 0, 1) := by decide +kernel
theorem dX11_keeps_66 : decode cX11_keeps 66 = .ok (.getfield 29, 3) := by decide +kernel
theorem dX11_keeps_69 : decode cX11_keeps 69 = .ok (.iconst 1, 1) := by decide +kernel
theorem dX11_keeps_70 : decode cX11_keeps 70 = .ok (.putfield 212, 3) := by decide +kernel
theorem dX11_keeps_73 : decode cX11_keeps 73 = .ok (.aload_n 0, 1) := by decide +kernel
theorem dX11_keeps_74 : decode cX11_keeps 74 = .ok (.getfield 22, 3) := by decide +kernel
theorem dX11_keeps_77 : decode cX11_keeps 77 = .ok (.getfield 214, 3) := by decide +kernel
theorem dX11_keeps_80 : decode cX11_keeps 80 = .ok (.ireturn, 1) := by decide +kernel
theorem eX11_keeps_0 : am_lim call mX11_keeps 0 [some (.ref a), l1, l2] (S) σ = am_lim call mX11_keeps 1 [some (.ref a), l1, l2] (.ref a :: S) σ := r_aload_n dX11_keeps_0 rfl
theorem eX11_keeps_1 (h : g_o σ a 11) : am_lim call mX11_keeps 1 [l0, l1, l2] (.ref a :: S) σ = am_lim call mX11_keeps 4 [l0, l1, l2] (va_rf (g_R σ a 5) :: S) σ := r_getR dX11_keeps_1 f_11_29 rfl h
theorem eX11_keeps_4 (h : g_o σ b 2) : am_lim call mX11_keeps 4 [l0, l1, l2] (.ref b :: []) σ = am_k (call mX2_mayBeKept [.ref b] σ) (fun r σ1 => am_lim call mX11_keeps 7 [l0, l1, l2] (r.toList ++ []) σ1) := r_kV (S1 := []) dX11_keeps_4 mt_11_197 rfl h (Nat.le_of_ble_eq_true rfl)
theorem eX11_keeps_7 : am_lim call mX11_keeps 7 [l0, l1, l2] (.int x :: S) σ = if x = 0 then am_lim call mX11_keeps 21 [l0, l1, l2] (S) σ else am_lim call mX11_keeps 10 [l0, l1, l2] (S) σ := r_ifB 21 dX11_keeps_7 (by decide) rfl
theorem eX11_keeps_10 : am_lim call mX11_keeps 10 [some (.ref a), l1, l2] (S) σ = am_lim call mX11_keeps 11 [some (.ref a), l1, l2] (.ref a :: S) σ := r_aload_n dX11_keeps_10 rfl
theorem eX11_keeps_11 (h : g_o σ a 11) : am_lim call mX11_keeps 11 [l0, l1, l2] (.ref a :: S) σ = am_lim call mX11_keeps 14 [l0, l1, l2] (va_rf (g_R σ a 1) :: S) σ := r_getR dX11_keeps_11 f_11_22 rfl h
theorem eX11_keeps_14 : am_lim call mX11_keeps 14 [l0, some (.int x), l2] (S) σ = am_lim call mX11_keeps 15 [l0, some (.int x), l2] (.int x :: S) σ := r_iload_n dX11_keeps_14 rfl
theorem eX11_keeps_15 (h : g_o σ b 5) : am_lim call mX11_keeps 15 [l0, l1, l2] (.int v0 :: .ref b :: []) σ = am_k (call mX5_takes [.ref b, .int v0] σ) (fun r σ1 => am_lim call mX11_keeps 18 [l0, l1, l2] (r.toList ++ []) σ1) := r_kV (S1 := [.int v0]) dX11_keeps_15 mt_11_201 rfl h (Nat.le_of_ble_eq_true rfl)
theorem eX11_keeps_18 : am_lim call mX11_keeps 18 [l0, l1, l2] (.int x :: S) σ = if x ≠ 0 then am_lim call mX11_keeps 23 [l0, l1, l2] (S) σ else am_lim call mX11_keeps 21 [l0, l1, l2] (S) σ := r_ifB 23 dX11_keeps_18 (by decide) rfl
theorem eX11_keeps_23 : am_lim call mX11_keeps 23 [some (.ref a), l1, l2] (S) σ = am_lim call mX11_keeps 24 [some (.ref a), l1, l2] (.ref a :: S) σ := r_aload_n dX11_keeps_23 rfl
theorem eX11_keeps_24 (h : g_o σ a 11) : am_lim call mX11_keeps 24 [l0, l1, l2] (.ref a :: S) σ = am_lim call mX11_keeps 27 [l0, l1, l2] (va_rf (g_R σ a 4) :: S) σ := r_getR dX11_keeps_24 f_11_66 rfl h
theorem eX11_keeps_27 : am_lim call mX11_keeps 27 [some (.ref a), l1, l2] (S) σ = am_lim call mX11_keeps 28 [some (.ref a), l1, l2] (.ref a :: S) σ := r_aload_n dX11_keeps_27 rfl
theorem eX11_keeps_28 (h : g_o σ a 11) : am_lim call mX11_keeps 28 [l0, l1, l2] (.ref a :: S) σ = am_lim call mX11_keeps 31 [l0, l1, l2] (va_rf (g_R σ a 5) :: S) σ := r_getR dX11_keeps_28 f_11_29 rfl h
theorem eX11_keeps_31 (h : g_o σ a 2) : am_lim call mX11_keeps 31 [l0, l1, l2] (.ref a :: S) σ = am_lim call mX11_keeps 34 [l0, l1, l2] (va_rf (g_R σ a 2) :: S) σ := r_getR dX11_keeps_31 f_11_134 rfl h
theorem eX11_keeps_34 (h : g_o σ b 6) : am_lim call mX11_keeps 34 [l0, l1, l2] (.ref p0 :: .ref b :: []) σ = am_k (call mX6_guessesIn [.ref b, .ref p0] σ) (fun r σ1 => am_lim call mX11_keeps 37 [l0, l1, l2] (r.toList ++ []) σ1) := r_kV (S1 := [.ref p0]) dX11_keeps_34 mt_11_158 rfl h (Nat.le_of_ble_eq_true rfl)
theorem eX11_keeps_37 : am_lim call mX11_keeps 37 [l0, l1, l2] (.int x :: S) σ = am_lim call mX11_keeps 38 [l0, l1, some (.int x)] (S) σ := r_istore_n dX11_keeps_37 rfl rfl rfl rfl
theorem eX11_keeps_38 : am_lim call mX11_keeps 38 [some (.ref a), l1, l2] (S) σ = am_lim call mX11_keeps 39 [some (.ref a), l1, l2] (.ref a :: S) σ := r_aload_n dX11_keeps_38 rfl
theorem eX11_keeps_39 (h : g_o σ a 11) : am_lim call mX11_keeps 39 [l0, l1, l2] (.ref a :: S) σ = am_lim call mX11_keeps 42 [l0, l1, l2] (va_rf (g_R σ a 4) :: S) σ := r_getR dX11_keeps_39 f_11_66 rfl h
theorem eX11_keeps_42 : am_lim call mX11_keeps 42 [some (.ref a), l1, l2] (S) σ = am_lim call mX11_keeps 43 [some (.ref a), l1, l2] (.ref a :: S) σ := r_aload_n dX11_keeps_42 rfl
theorem eX11_keeps_43 (h : g_o σ a 11) : am_lim call mX11_keeps 43 [l0, l1, l2] (.ref a :: S) σ = am_lim call mX11_keeps 46 [l0, l1, l2] (va_rf (g_R σ a 5) :: S) σ := r_getR dX11_keeps_43 f_11_29 rfl h
theorem eX11_keeps_46 (h : g_o σ a 2) : am_lim call mX11_keeps 46 [l0, l1, l2] (.ref a :: S) σ = am_lim call mX11_keeps 49 [l0, l1, l2] (va_rf (g_R σ a 2) :: S) σ := r_getR dX11_keeps_46 f_11_134 rfl h
theorem eX11_keeps_49 : am_lim call mX11_keeps 49 [some (.ref a), l1, l2] (S) σ = am_lim call mX11_keeps 50 [some (.ref a), l1, l2] (.ref a :: S) σ := r_aload_n dX11_keeps_49 rfl
theorem eX11_keeps_50 (h : g_o σ a 11) : am_lim call mX11_keeps 50 [l0, l1, l2] (.ref a :: S) σ = am_lim call mX11_keeps 53 [l0, l1, l2] (va_rf (g_R σ a 1) :: S) σ := r_getR dX11_keeps_50 f_11_22 rfl h
theorem eX11_keeps_53 : am_lim call mX11_keeps 53 [l0, some (.int x), l2] (S) σ = am_lim call mX11_keeps 54 [l0, some (.int x), l2] (.int x :: S) σ := r_iload_n dX11_keeps_53 rfl
theorem eX11_keeps_54 : am_lim call mX11_keeps 54 [some (.ref a), l1, l2] (S) σ = am_lim call mX11_keeps 55 [some (.ref a), l1, l2] (.ref a :: S) σ := r_aload_n dX11_keeps_54 rfl
theorem eX11_keeps_55 (h : g_o σ a 11) : am_lim call mX11_keeps 55 [l0, l1, l2] (.ref a :: S) σ = am_lim call mX11_keeps 58 [l0, l1, l2] (va_rf (g_R σ a 7) :: S) σ := r_getR dX11_keeps_55 f_11_10 rfl h
theorem eX11_keeps_58 : am_lim call mX11_keeps 58 [l0, l1, some (.int x)] (S) σ = am_lim call mX11_keeps 59 [l0, l1, some (.int x)] (.int x :: S) σ := r_iload_n dX11_keeps_58 rfl
theorem eX11_keeps_59 (h : g_o σ b 5) : am_lim call mX11_keeps 59 [l0, l1, l2] (.int v2 :: .ref p1 :: .int v0 :: .ref b :: .ref q0 :: .ref q1 :: []) σ = am_k (call mX5_put [.ref b, .int v0, .ref p1, .int v2] σ) (fun r σ1 => am_lim call mX11_keeps 62 [l0, l1, l2] (r.toList ++ .ref q0 :: .ref q1 :: []) σ1) := r_kV (S1 := [.int v2, .ref p1, .int v0]) dX11_keeps_59 mt_11_205 rfl h (Nat.le_of_ble_eq_true rfl)
theorem eX11_keeps_62 (h : g_o σ b 6) : am_lim call mX11_keeps 62 [l0, l1, l2] (.ref p1 :: .ref p0 :: .ref b :: []) σ = am_k (call mX6_close [.ref b, .ref p0, .ref p1] σ) (fun r σ1 => am_lim call mX11_keeps 65 [l0, l1, l2] (r.toList ++ []) σ1) := r_kV (S1 := [.ref p1, .ref p0]) dX11_keeps_62 mt_11_208 rfl h (Nat.le_of_ble_eq_true rfl)
theorem eX11_keeps_65 : am_lim call mX11_keeps 65 [some (.ref a), l1, l2] (S) σ = am_lim call mX11_keeps 66 [some (.ref a), l1, l2] (.ref a :: S) σ := r_aload_n dX11_keeps_65 rfl
theorem eX11_keeps_66 (h : g_o σ a 11) : am_lim call mX11_keeps 66 [l0, l1, l2] (.ref a :: S) σ = am_lim call mX11_keeps 69 [l0, l1, l2] (va_rf (g_R σ a 5) :: S) σ := r_getR dX11_keeps_66 f_11_29 rfl h
theorem eX11_keeps_69 : am_lim call mX11_keeps 69 [l0, l1, l2] (S) σ = am_lim call mX11_keeps 70 [l0, l1, l2] (.int 1 :: S) σ := r_iconst dX11_keeps_69 (by decide)
theorem eX11_keeps_70 (h : g_o σ a 2) (hx : x = 0 ∨ x = 1) : am_lim call mX11_keeps 70 [l0, l1, l2] (.int x :: .ref a :: S) σ = am_lim call mX11_keeps 73 [l0, l1, l2] (S) (am_sI σ a 8 x) := r_putZ dX11_keeps_70 f_11_212 rfl rfl h hx
theorem eX11_keeps_73 : am_lim call mX11_keeps 73 [some (.ref a), l1, l2] (S) σ = am_lim call mX11_keeps 74 [some (.ref a), l1, l2] (.ref a :: S) σ := r_aload_n dX11_keeps_73 rfl
theorem eX11_keeps_74 (h : g_o σ a 11) : am_lim call mX11_keeps 74 [l0, l1, l2] (.ref a :: S) σ = am_lim call mX11_keeps 77 [l0, l1, l2] (va_rf (g_R σ a 1) :: S) σ := r_getR dX11_keeps_74 f_11_22 rfl h
theorem eX11_keeps_77 (h : g_o σ a 5) : am_lim call mX11_keeps 77 [l0, l1, l2] (.ref a :: S) σ = am_lim call mX11_keeps 80 [l0, l1, l2] (.int (g_I σ a 0) :: S) σ := r_getI dX11_keeps_77 f_11_214 rfl h
theorem eX11_keeps_80 : am_lim call mX11_keeps 80 [l0, l1, l2] ([.int x]) σ = some (some (.int x), σ) := r_retI dX11_keeps_80 rfl
theorem eX11_keeps_21 : am_lim call mX11_keeps 21 [l0, l1, l2] (S) σ = am_lim call mX11_keeps 22 [l0, l1, l2] (.int (-1) :: S) σ := r_iconst dX11_keeps_21 (by decide)
theorem eX11_keeps_22 : am_lim call mX11_keeps 22 [l0, l1, l2] ([.int x]) σ = some (some (.int x), σ) := r_retI dX11_keeps_22 rfl
theorem nX11_keeps {d : Nat} : am_run (d + 1) mX11_keeps [.ref b, .int v0] σ = am_lim (am_run d) mX11_keeps 0 [some (.ref b), some (.int v0), none] [] σ := am_run_S rfl rfl rfl rfl
theorem dX2_mayBeKept_0 : decode cX2_mayBeKept 0 = .ok (.aload_n 0, 1) := by decide +kernel
theorem dX2_mayBeKept_1 : decode cX2_mayBeKept 1 = .ok (.getfield 44, 3) := by decide +kernel
theorem dX2_mayBeKept_4 : decode cX2_mayBeKept 4 = .ok (.ifCond .eq 21, 3) := by decide +kernel
theorem dX2_mayBeKept_7 : decode cX2_mayBeKept 7 = .ok (.aload_n 0, 1) := by decide +kernel
theorem dX2_mayBeKept_8 : decode cX2_mayBeKept 8 = .ok (.getfield 31, 3) := by decide +kernel
theorem dX2_mayBeKept_11 : decode cX2_mayBeKept 11 = .ok (.ifCond .ne 14, 3) := by decide +kernel
theorem dX2_mayBeKept_14 : decode cX2_mayBeKept 14 = .ok (.aload_n 0, 1) := by decide +kernel
theorem dX2_mayBeKept_15 : decode cX2_mayBeKept 15 = .ok (.getfield 48, 3) := by decide +kernel
theorem dX2_mayBeKept_18 : decode cX2_mayBeKept 18 = .ok (.ifCond .ne 7, 3) := by decide +kernel
theorem dX2_mayBeKept_21 : decode cX2_mayBeKept 21 = .ok (.iconst 1, 1) := by decide +kernel
theorem dX2_mayBeKept_22 : decode cX2_mayBeKept 22 = .ok (.goto 4, 3) := by decide +kernel
theorem dX2_mayBeKept_25 : decode cX2_mayBeKept 25 = .ok (.iconst 0, 1) := by decide +kernel
theorem dX2_mayBeKept_26 : decode cX2_mayBeKept 26 = .ok (.ireturn, 1) := by decide +kernel
theorem eX2_mayBeKept_0 : am_lim call mX2_mayBeKept 0 [some (.ref a)] (S) σ = am_lim call mX2_mayBeKept 1 [some (.ref a)] (.ref a :: S) σ := r_aload_n dX2_mayBeKept_0 rfl
theorem eX2_mayBeKept_1 (h : g_o σ a 2) : am_lim call mX2_mayBeKept 1 [l0] (.ref a :: S) σ = am_lim call mX2_mayBeKept 4 [l0] (.int (g_I σ a 7) :: S) σ := r_getI dX2_mayBeKept_1 f_2_44 rfl h
theorem eX2_mayBeKept_4 : am_lim call mX2_mayBeKept 4 [l0] (.int x :: S) σ = if x = 0 then am_lim call mX2_mayBeKept 25 [l0] (S) σ else am_lim call mX2_mayBeKept 7 [l0] (S) σ := r_ifB 25 dX2_mayBeKept_4 (by decide) rfl
theorem eX2_mayBeKept_7 : am_lim call mX2_mayBeKept 7 [some (.ref a)] (S) σ = am_lim call mX2_mayBeKept 8 [some (.ref a)] (.ref a :: S) σ := r_aload_n dX2_mayBeKept_7 rfl
theorem eX2_mayBeKept_8 (h : g_o σ a 2) : am_lim call mX2_mayBeKept 8 [l0] (.ref a :: S) σ = am_lim call mX2_mayBeKept 11 [l0] (.int (g_I σ a 3) :: S) σ := r_getI dX2_mayBeKept_8 f_2_31 rfl h
theorem eX2_mayBeKept_11 : am_lim call mX2_mayBeKept 11 [l0] (.int x :: S) σ = if x ≠ 0 then am_lim call mX2_mayBeKept 25 [l0] (S) σ else am_lim call mX2_mayBeKept 14 [l0] (S) σ := r_ifB 25 dX2_mayBeKept_11 (by decide) rfl
theorem eX2_mayBeKept_14 : am_lim call mX2_mayBeKept 14 [some (.ref a)] (S) σ = am_lim call mX2_mayBeKept 15 [some (.ref a)] (.ref a :: S) σ := r_aload_n dX2_mayBeKept_14 rfl
theorem eX2_mayBeKept_15 (h : g_o σ a 2) : am_lim call mX2_mayBeKept 15 [l0] (.ref a :: S) σ = am_lim call mX2_mayBeKept 18 [l0] (.int (g_I σ a 8) :: S) σ := r_getI dX2_mayBeKept_15 f_2_48 rfl h
theorem eX2_mayBeKept_18 : am_lim call mX2_mayBeKept 18 [l0] (.int x :: S) σ = if x ≠ 0 then am_lim call mX2_mayBeKept 25 [l0] (S) σ else am_lim call mX2_mayBeKept 21 [l0] (S) σ := r_ifB 25 dX2_mayBeKept_18 (by decide) rfl
theorem eX2_mayBeKept_21 : am_lim call mX2_mayBeKept 21 [l0] (S) σ = am_lim call mX2_mayBeKept 22 [l0] (.int 1 :: S) σ := r_iconst dX2_mayBeKept_21 (by decide)
theorem eX2_mayBeKept_22 : am_lim call mX2_mayBeKept 22 [l0] (S) σ = am_lim call mX2_mayBeKept 26 [l0] (S) σ := r_goto 26 dX2_mayBeKept_22 (by decide)
theorem eX2_mayBeKept_26 (hx : x = 0 ∨ x = 1) : am_lim call mX2_mayBeKept 26 [l0] ([.int x]) σ = some (some (.int x), σ) := r_retZ dX2_mayBeKept_26 rfl hx
theorem eX2_mayBeKept_25 : am_lim call mX2_mayBeKept 25 [l0] (S) σ = am_lim call mX2_mayBeKept 26 [l0] (.int 0 :: S) σ := r_iconst dX2_mayBeKept_25 (by decide)
theorem nX2_mayBeKept {d : Nat} : am_run (d + 1) mX2_mayBeKept [.ref b] σ = am_lim (am_run d) mX2_mayBeKept 0 [some (.ref b)] [] σ := am_run_S rfl rfl rfl rfl
theorem dX12_keeps_0 : decode cX12_keeps 0 = .ok (.aload_n 0, 1) := by decide +kernel
theorem dX12_keeps_1 : decode cX12_keeps 1 = .ok (.iconst 0, 1) := by decide +kernel
theorem dX12_keeps_2 : decode cX12_keeps 2 = .ok (.putfield 113, 3) := by decide +kernel
theorem dX12_keeps_5 : decode cX12_keeps 5 = .ok (.aload_n 0, 1) := by decide +kernel
theorem dX12_keeps_6 : decode cX12_keeps 6 = .ok (.getfield 414, 3) := by decide +kernel
theorem dX12_keeps_9 : decode cX12_keeps 9 = .ok (.bipush 8, 2) := by decide +kernel
theorem dX12_keeps_11 : decode cX12_keeps 11 = .ok (.if_icmp .eq 37, 3) := by decide +kernel
theorem dX12_keeps_14 : decode cX12_keeps 14 = .ok (.iload_n 1, 1) := by decide +kernel
theorem dX12_keeps_15 : decode cX12_keeps 15 = .ok (.i2l, 1) := by decide +kernel
theorem dX12_keeps_16 : decode cX12_keeps 16 = .ok (.lconst 0, 1) := by decide +kernel
theorem dX12_keeps_17 : decode cX12_keeps 17 = .ok (.ldc2_w 498, 3) := by decide +kernel
theorem dX12_keeps_20 : decode cX12_keeps 20 = .ok (.invokestatic 199, 3) := by decide +kernel
theorem dX12_keeps_23 : decode cX12_keeps 23 = .ok (.ifCond .eq 25, 3) := by decide +kernel
theorem dX12_keeps_26 : decode cX12_keeps 26 = .ok (.aload_n 0, 1) := by decide +kernel
theorem dX12_keeps_27 : decode cX12_keeps 27 = .ok (.iload_n 1, 1) := by decide +kernel
theorem dX12_keeps_28 : decode cX12_keeps 28 = .ok (.invokevirtual 500, 3) := by decide +kernel
theorem dX12_keeps_31 : decode cX12_keeps 31 = .ok (.ifCond .ne 17, 3) := by decide +kernel
theorem dX12_keeps_34 : decode cX12_keeps 34 = .ok (.aload_n 0, 1) := by decide +kernel
theorem dX12_keeps_35 : decode cX12_keeps 35 = .ok (.invokevirtual 478, 3) := by decide +kernel
theorem dX12_keeps_38 : decode cX12_keeps 38 = .ok (.ifCond .eq 10, 3) := by decide +kernel
theorem dX12_keeps_41 : decode cX12_keeps 41 = .ok (.aload_n 0, 1) := by decide +kernel
theorem dX12_keeps_42 : decode cX12_keeps 42 = .ok (.getfield 435, 3) := by decide +kernel
theorem dX12_keeps_45 : decode cX12_keeps 45 = .ok (.ifCond .eq 5, 3) := by decide +kernel
theorem dX12_keeps_48 : decode cX12_keeps 48 = .ok (.iconst (-1), 1) := by decide +kernel
theorem dX12_keeps_49 : decode cX12_keeps 49 = .ok (.ireturn, 1) := by decide +kernel
theorem dX12_keeps_50 : decode cX12_keeps 50 = .ok (.aload_n 0, 1) := by decide +kernel
theorem dX12_keeps_51 : decode cX12_keeps 51 = .ok (.aload_n 0, 1) := by decide +kernel
theorem dX12_keeps_52 : decode cX12_keeps 52 = .ok (.getfield 51, 3) := by decide +kernel
theorem dX12_keeps_55 : decode cX12_keeps 55 = .ok (.invokevirtual 485, 3) := by decide +kernel
theorem dX12_keeps_58 : decode cX12_keeps 58 = .ok (.istore_n 2, 1) := by decide +kernel
theorem dX12_keeps_59 : decode cX12_keeps 59 = .ok (.aload_n 0, 1) := by decide +kernel
theorem dX12_keeps_60 : decode cX12_keeps 60 = .ok (.aload_n 0, 1) := by decide +kernel
theorem dX12_keeps_61 : decode cX12_keeps 61 = .ok (.getfield 414, 3) := by decide +kernel
theorem dX12_keeps_64 : decode cX12_keeps 64 = .ok (.invokestatic 417, 3) := by decide +kernel
theorem dX12_keeps_67 : decode cX12_keeps 67 = .ok (.putfield 137, 3) := by decide +kernel
theorem dX12_keeps_70 : decode cX12_keeps 70 = .ok (.iconst 0, 1) := by decide +kernel
theorem dX12_keeps_71 : decode cX12_keeps 71 = .ok (.istore_n 3, 1) := by decide +kernel
theorem dX12_keeps_72 : decode cX12_keeps 72 = .ok (.iload_n 3, 1) := by decide +kernel
theorem dX12_keeps_73 : decode cX12_keeps 73 = .ok (.iload_n 2, 1) := by decide +kernel
theorem dX12_keeps_74 : decode cX12_keeps 74 = .ok (.if_icmp .ge 14, 3) := by decide +kernel
theorem dX12_keeps_77 : decode cX12_keeps 77 = .ok (.aload_n 0, 1) := by decide +kernel
theorem dX12_keeps_78 : decode cX12_keeps 78 = .ok (.iconst 5, 1) := by decide +kernel
theorem dX12_keeps_79 : decode cX12_keeps 79 = .ok (.invokevirtual 150, 3) := by decide +kernel
theorem dX12_keeps_82 : decode cX12_keeps 82 = .ok (.iinc 3 1, 3) := by decide +kernel
theorem dX12_keeps_85 : decode cX12_keeps 85 = .ok (.goto (-13), 3) := by decide +kernel
theorem dX12_keeps_88 : decode cX12_keeps 88 = .ok (.aload_n 0, 1) := by decide +kernel
theorem dX12_keeps_89 : decode cX12_keeps 89 = .ok (.aload_n 0, 1) := by decide +kernel
theorem dX12_keeps_90 : decode cX12_keeps 90 = .ok (.getfield 51, 3) := by decide +kernel
theorem dX12_keeps_93 : decode cX12_keeps 93 = .ok (.iload_n 2, 1) := by decide +kernel
theorem dX12_keeps_94 : decode cX12_keeps 94 = .ok (.invokevirtual 495, 3) := by decide +kernel
theorem dX12_keeps_97 : decode cX12_keeps 97 = .ok (.aload_n 0, 1) := by decide +kernel
theorem dX12_keeps_98 : decode cX12_keeps 98 = .ok (.iconst 1, 1) := by decide +kernel
theorem dX12_keeps_99 : decode cX12_keeps 99 = .ok (.aload_n 0, 1) := by decide +kernel
theorem dX12_keeps_100 : decode cX12_keeps 100 = .ok (.getfield 414, 3) := by decide +kernel
theorem dX12_keeps_103 : decode cX12_keeps 103 = .ok (.invokestatic 503, 3) := by decide +kernel
theorem dX12_keeps_106 : decode cX12_keeps 106 = .ok (.invokevirtual 438, 3) := by decide +kernel
theorem dX12_keeps_109 : decode cX12_keeps 109 = .ok (.aload_n 0, 1) := by decide +kernel
theorem dX12_keeps_110 : decode cX12_keeps 110 = .ok (.getfield 58, 3) := by decide +kernel
theorem dX12_keeps_113 : decode cX12_keeps 113 = .ok (.aload_n 0, 1) := by decide +kernel
theorem dX12_keeps_114 : decode cX12_keeps 114 = .ok (.getfield 414, 3) := by decide +kernel
theorem dX12_keeps_117 : decode cX12_keeps 117 = .ok (.iload_n 1, 1) := by decide +kernel
theorem dX12_keeps_118 : decode cX12_keeps 118 = .ok (.iastore, 1) := by decide +kernel
theorem dX12_keeps_119 : decode cX12_keeps 119 = .ok (.aload_n 0, 1) := by decide +kernel
theorem dX12_keeps_120 : decode cX12_keeps 120 = .ok (.getfield 61, 3) := by decide +kernel
theorem dX12_keeps_123 : decode cX12_keeps 123 = .ok (.aload_n 0, 1) := by decide +kernel
theorem dX12_keeps_124 : decode cX12_keeps 124 = .ok (.getfield 414, 3) := by decide +kernel
theorem dX12_keeps_127 : decode cX12_keeps 127 = .ok (.iload_n 2, 1) := by decide +kernel
theorem dX12_keeps_128 : decode cX12_keeps 128 = .ok (.iastore, 1) := by decide +kernel
theorem dX12_keeps_129 : decode cX12_keeps 129 = .ok (.aload_n 0, 1) := by decide +kernel
theorem dX12_keeps_130 : decode cX12_keeps 130 = .ok (.getfield 64, 3) := by decide +kernel
theorem dX12_keeps_133 : decode cX12_keeps 133 = .ok (.aload_n 0, 1) := by decide +kernel
theorem dX12_keeps_134 : decode cX12_keeps 134 = .ok (.getfield 414, 3) := by decide +kernel
theorem dX12_keeps_137 : decode cX12_keeps 137 = .ok (.aload_n 0, 1) := by decide +kernel
theorem dX12_keeps_138 : decode cX12_keeps 138 = .ok (.getfield 441, 3) := by decide +kernel
theorem dX12_keeps_141 : decode cX12_keeps 141 = .ok (.iastore, 1) := by decide +kernel
theorem dX12_keeps_142 : decode cX12_keeps 142 = .ok (.aload_n 0, 1) := by decide +kernel
theorem dX12_keeps_143 : decode cX12_keeps 143 = .ok (.dup, 1) := by decide +kernel
theorem dX12_keeps_144 : decode cX12_keeps 144 = .ok (.getfield 414, 3) := by decide +kernel
theorem dX12_keeps_147 : decode cX12_keeps 147 = .ok (.iconst 1, 1) := by decide +kernel
theorem dX12_keeps_148 : decode cX12_keeps 148 = .ok (.iadd, 1) := by decide +kernel
theorem dX12_keeps_149 : decode cX12_keeps 149 = .ok (.putfield 414, 3) := by decide +kernel
theorem dX12_keeps_152 : decode cX12_keeps 152 = .ok (.aload_n 0, 1) := by decide +kernel
theorem dX12_keeps_153 : decode cX12_keeps 153 = .ok (.iconst 1, 1) := by decide +kernel
theorem dX12_keeps_154 : decode cX12_keeps 154 = .ok (.putfield 435, 3) := by decide +kernel
theorem dX12_keeps_157 : decode cX12_keeps 157 = .ok (.aload_n 0, 1) := by decide +kernel
theorem dX12_keeps_158 : decode cX12_keeps 158 = .ok (.getfield 414, 3) := by decide +kernel
theorem dX12_keeps_161 : decode cX12_keeps 161 = .ok (.ireturn, 1) := by decide +kernel
theorem eX12_keeps_0 : am_lim call mX12_keeps 0 [some (.ref a), l1, l2, l3] (S) σ = am_lim call mX12_keeps 1 [some (.ref a), l1, l2, l3] (.ref a :: S) σ := r_aload_n dX12_keeps_0 rfl
theorem eX12_keeps_1 : am_lim call mX12_keeps 1 [l0, l1, l2, l3] (S) σ = am_lim call mX12_keeps 2 [l0, l1, l2, l3] (.int 0 :: S) σ := r_iconst dX12_keeps_1 (by decide)
theorem eX12_keeps_2 (h : g_o σ a 12) : am_lim call mX12_keeps 2 [l0, l1, l2, l3] (.int x :: .ref a :: S) σ = am_lim call mX12_keeps 5 [l0, l1, l2, l3] (S) (am_sI σ a 0 x) := r_putI dX12_keeps_2 f_12_113 rfl rfl h
theorem eX12_keeps_5 : am_lim call mX12_keeps 5 [some (.ref a), l1, l2, l3] (S) σ = am_lim call mX12_keeps 6 [some (.ref a), l1, l2, l3] (.ref a :: S) σ := r_aload_n dX12_keeps_5 rfl
theorem eX12_keeps_6 (h : g_o σ a 12) : am_lim call mX12_keeps 6 [l0, l1, l2, l3] (.ref a :: S) σ = am_lim call mX12_keeps 9 [l0, l1, l2, l3] (.int (g_I σ a 43) :: S) σ := r_getI dX12_keeps_6 f_12_414 rfl h
theorem eX12_keeps_9 : am_lim call mX12_keeps 9 [l0, l1, l2, l3] (S) σ = am_lim call mX12_keeps 11 [l0, l1, l2, l3] (.int 8 :: S) σ := r_bipush dX12_keeps_9 (by decide)
theorem eX12_keeps_11 : am_lim call mX12_keeps 11 [l0, l1, l2, l3] (.int y :: .int x :: S) σ = if x = y then am_lim call mX12_keeps 48 [l0, l1, l2, l3] (S) σ else am_lim call mX12_keeps 14 [l0, l1, l2, l3] (S) σ := r_icmpB 48 dX12_keeps_11 (by decide) rfl
theorem eX12_keeps_14 : am_lim call mX12_keeps 14 [l0, some (.int x), l2, l3] (S) σ = am_lim call mX12_keeps 15 [l0, some (.int x), l2, l3] (.int x :: S) σ := r_iload_n dX12_keeps_14 rfl
theorem eX12_keeps_15 : am_lim call mX12_keeps 15 [l0, l1, l2, l3] (.int x :: S) σ = am_lim call mX12_keeps 16 [l0, l1, l2, l3] (.long x.toInt64 :: S) σ := r_i2l dX12_keeps_15
theorem eX12_keeps_16 : am_lim call mX12_keeps 16 [l0, l1, l2, l3] (S) σ = am_lim call mX12_keeps 17 [l0, l1, l2, l3] (.long 0 :: S) σ := r_lconst dX12_keeps_16 (by decide)
theorem eX12_keeps_17 : am_lim call mX12_keeps 17 [l0, l1, l2, l3] (S) σ = am_lim call mX12_keeps 20 [l0, l1, l2, l3] (.long 25 :: S) σ := r_ldc2 dX12_keeps_17 (by decide +kernel)
theorem eX12_keeps_20 : am_lim call mX12_keeps 20 [l0, l1, l2, l3] (.long w2 :: .long w1 :: .long w0 :: []) σ = am_k (call mX12_isIn [.long w0, .long w1, .long w2] σ) (fun r σ1 => am_lim call mX12_keeps 23 [l0, l1, l2, l3] (r.toList ++ []) σ1) := r_kS (S1 := [.long w2, .long w1, .long w0]) dX12_keeps_20 ⟨rfl, rfl, rfl⟩ mt_12_199 rfl (Nat.le_of_ble_eq_true rfl)
theorem eX12_keeps_23 : am_lim call mX12_keeps 23 [l0, l1, l2, l3] (.int x :: S) σ = if x = 0 then am_lim call mX12_keeps 48 [l0, l1, l2, l3] (S) σ else am_lim call mX12_keeps 26 [l0, l1, l2, l3] (S) σ := r_ifB 48 dX12_keeps_23 (by decide) rfl
theorem eX12_keeps_26 : am_lim call mX12_keeps 26 [some (.ref a), l1, l2, l3] (S) σ = am_lim call mX12_keeps 27 [some (.ref a), l1, l2, l3] (.ref a :: S) σ := r_aload_n dX12_keeps_26 rfl
theorem eX12_keeps_27 : am_lim call mX12_keeps 27 [l0, some (.int x), l2, l3] (S) σ = am_lim call mX12_keeps 28 [l0, some (.int x), l2, l3] (.int x :: S) σ := r_iload_n dX12_keeps_27 rfl
theorem eX12_keeps_28 (h : g_o σ b 12) : am_lim call mX12_keeps 28 [l0, l1, l2, l3] (.int v0 :: .ref b :: []) σ = am_k (call mX12_isOnShelf [.ref b, .int v0] σ) (fun r σ1 => am_lim call mX12_keeps 31 [l0, l1, l2, l3] (r.toList ++ []) σ1) := r_kV (S1 := [.int v0]) dX12_keeps_28 mt_12_500 rfl h (Nat.le_of_ble_eq_true rfl)
theorem eX12_keeps_31 : am_lim call mX12_keeps 31 [l0, l1, l2, l3] (.int x :: S) σ = if x ≠ 0 then am_lim call mX12_keeps 48 [l0, l1, l2, l3] (S) σ else am_lim call mX12_keeps 34 [l0, l1, l2, l3] (S) σ := r_ifB 48 dX12_keeps_31 (by decide) rfl
theorem eX12_keeps_34 : am_lim call mX12_keeps 34 [some (.ref a), l1, l2, l3] (S) σ = am_lim call mX12_keeps 35 [some (.ref a), l1, l2, l3] (.ref a :: S) σ := r_aload_n dX12_keeps_34 rfl
theorem eX12_keeps_35 (h : g_o σ b 12) : am_lim call mX12_keeps 35 [l0, l1, l2, l3] (.ref b :: []) σ = am_k (call mX12_hasType [.ref b] σ) (fun r σ1 => am_lim call mX12_keeps 38 [l0, l1, l2, l3] (r.toList ++ []) σ1) := r_kV (S1 := []) dX12_keeps_35 mt_12_478 rfl h (Nat.le_of_ble_eq_true rfl)
theorem eX12_keeps_38 : am_lim call mX12_keeps 38 [l0, l1, l2, l3] (.int x :: S) σ = if x = 0 then am_lim call mX12_keeps 48 [l0, l1, l2, l3] (S) σ else am_lim call mX12_keeps 41 [l0, l1, l2, l3] (S) σ := r_ifB 48 dX12_keeps_38 (by decide) rfl
theorem eX12_keeps_41 : am_lim call mX12_keeps 41 [some (.ref a), l1, l2, l3] (S) σ = am_lim call mX12_keeps 42 [some (.ref a), l1, l2, l3] (.ref a :: S) σ := r_aload_n dX12_keeps_41 rfl
theorem eX12_keeps_42 (h : g_o σ a 12) : am_lim call mX12_keeps 42 [l0, l1, l2, l3] (.ref a :: S) σ = am_lim call mX12_keeps 45 [l0, l1, l2, l3] (.int (g_I σ a 38) :: S) σ := r_getI dX12_keeps_42 f_12_435 rfl h
theorem eX12_keeps_45 : am_lim call mX12_keeps 45 [l0, l1, l2, l3] (.int x :: S) σ = if x = 0 then am_lim call mX12_keeps 50 [l0, l1, l2, l3] (S) σ else am_lim call mX12_keeps 48 [l0, l1, l2, l3] (S) σ := r_ifB 50 dX12_keeps_45 (by decide) rfl
theorem eX12_keeps_50 : am_lim call mX12_keeps 50 [some (.ref a), l1, l2, l3] (S) σ = am_lim call mX12_keeps 51 [some (.ref a), l1, l2, l3] (.ref a :: S) σ := r_aload_n dX12_keeps_50 rfl
theorem eX12_keeps_51 : am_lim call mX12_keeps 51 [some (.ref a), l1, l2, l3] (S) σ = am_lim call mX12_keeps 52 [some (.ref a), l1, l2, l3] (.ref a :: S) σ := r_aload_n dX12_keeps_51 rfl
theorem eX12_keeps_52 (h : g_o σ a 12) : am_lim call mX12_keeps 52 [l0, l1, l2, l3] (.ref a :: S) σ = am_lim call mX12_keeps 55 [l0, l1, l2, l3] (.int (g_I σ a 41) :: S) σ := r_getI dX12_keeps_52 f_12_51 rfl h
theorem eX12_keeps_55 (h : g_o σ b 12) : am_lim call mX12_keeps 55 [l0, l1, l2, l3] (.int v0 :: .ref b :: []) σ = am_k (call mX12_openOf [.ref b, .int v0] σ) (fun r σ1 => am_lim call mX12_keeps 58 [l0, l1, l2, l3] (r.toList ++ []) σ1) := r_kV (S1 := [.int v0]) dX12_keeps_55 mt_12_485 rfl h (Nat.le_of_ble_eq_true rfl)
theorem eX12_keeps_58 : am_lim call mX12_keeps 58 [l0, l1, l2, l3] (.int x :: S) σ = am_lim call mX12_keeps 59 [l0, l1, some (.int x), l3] (S) σ := r_istore_n dX12_keeps_58 rfl rfl rfl rfl
theorem eX12_keeps_59 : am_lim call mX12_keeps 59 [some (.ref a), l1, l2, l3] (S) σ = am_lim call mX12_keeps 60 [some (.ref a), l1, l2, l3] (.ref a :: S) σ := r_aload_n dX12_keeps_59 rfl
theorem eX12_keeps_60 : am_lim call mX12_keeps 60 [some (.ref a), l1, l2, l3] (S) σ = am_lim call mX12_keeps 61 [some (.ref a), l1, l2, l3] (.ref a :: S) σ := r_aload_n dX12_keeps_60 rfl
theorem eX12_keeps_61 (h : g_o σ a 12) : am_lim call mX12_keeps 61 [l0, l1, l2, l3] (.ref a :: S) σ = am_lim call mX12_keeps 64 [l0, l1, l2, l3] (.int (g_I σ a 43) :: S) σ := r_getI dX12_keeps_61 f_12_414 rfl h
theorem eX12_keeps_64 : am_lim call mX12_keeps 64 [l0, l1, l2, l3] (.int v0 :: .ref q0 :: []) σ = am_k (call mX12_typeRowOf [.int v0] σ) (fun r σ1 => am_lim call mX12_keeps 67 [l0, l1, l2, l3] (r.toList ++ .ref q0 :: []) σ1) := r_kS (S1 := [.int v0]) dX12_keeps_64 ⟨rfl, rfl, rfl⟩ mt_12_417 rfl (Nat.le_of_ble_eq_true rfl)
theorem eX12_keeps_67 (h : g_o σ a 12) : am_lim call mX12_keeps 67 [l0, l1, l2, l3] (.int x :: .ref a :: S) σ = am_lim call mX12_keeps 70 [l0, l1, l2, l3] (S) (am_sI σ a 6 x) := r_putI dX12_keeps_67 f_12_137 rfl rfl h
theorem eX12_keeps_70 : am_lim call mX12_keeps 70 [l0, l1, l2, l3] (S) σ = am_lim call mX12_keeps 71 [l0, l1, l2, l3] (.int 0 :: S) σ := r_iconst dX12_keeps_70 (by decide)
theorem eX12_keeps_71 : am_lim call mX12_keeps 71 [l0, l1, l2, l3] (.int x :: S) σ = am_lim call mX12_keeps 72 [l0, l1, l2, some (.int x)] (S) σ := r_istore_n dX12_keeps_71 rfl rfl rfl rfl
theorem eX12_keeps_72 : am_lim call mX12_keeps 72 [l0, l1, l2, some (.int x)] (S) σ = am_lim call mX12_keeps 73 [l0, l1, l2, some (.int x)] (.int x :: S) σ := r_iload_n dX12_keeps_72 rfl
theorem eX12_keeps_73 : am_lim call mX12_keeps 73 [l0, l1, some (.int x), l3] (S) σ = am_lim call mX12_keeps 74 [l0, l1, some (.int x), l3] (.int x :: S) σ := r_iload_n dX12_keeps_73 rfl
theorem eX12_keeps_74 : am_lim call mX12_keeps 74 [l0, l1, l2, l3] (.int y :: .int x :: S) σ = if y ≤ x then am_lim call mX12_keeps 88 [l0, l1, l2, l3] (S) σ else am_lim call mX12_keeps 77 [l0, l1, l2, l3] (S) σ := r_icmpB 88 dX12_keeps_74 (by decide) rfl
theorem eX12_keeps_77 : am_lim call mX12_keeps 77 [some (.ref a), l1, l2, l3] (S) σ = am_lim call mX12_keeps 78 [some (.ref a), l1, l2, l3] (.ref a :: S) σ := r_aload_n dX12_keeps_77 rfl
theorem eX12_keeps_78 : am_lim call mX12_keeps 78 [l0, l1, l2, l3] (S) σ = am_lim call mX12_keeps 79 [l0, l1, l2, l3] (.int 5 :: S) σ := r_iconst dX12_keeps_78 (by decide)
theorem eX12_keeps_79 (h : g_o σ b 12) : am_lim call mX12_keeps 79 [l0, l1, l2, l3] (.int v0 :: .ref b :: []) σ = am_k (call mX12_puts [.ref b, .int v0] σ) (fun r σ1 => am_lim call mX12_keeps 82 [l0, l1, l2, l3] (r.toList ++ []) σ1) := r_kV (S1 := [.int v0]) dX12_keeps_79 mt_12_150 rfl h (Nat.le_of_ble_eq_true rfl)
theorem eX12_keeps_82 : am_lim call mX12_keeps 82 [l0, l1, l2, some (.int x)] (S) σ = am_lim call mX12_keeps 85 [l0, l1, l2, some (.int (x + 1))] (S) σ := r_iinc dX12_keeps_82 rfl (by decide) rfl rfl rfl rfl
theorem eX12_keeps_85 : am_lim call mX12_keeps 85 [l0, l1, l2, l3] (S) σ = am_lim call mX12_keeps 72 [l0, l1, l2, l3] (S) σ := r_goto 72 dX12_keeps_85 (by decide)
theorem eX12_keeps_88 : am_lim call mX12_keeps 88 [some (.ref a), l1, l2, l3] (S) σ = am_lim call mX12_keeps 89 [some (.ref a), l1, l2, l3] (.ref a :: S) σ := r_aload_n dX12_keeps_88 rfl
theorem eX12_keeps_89 : am_lim call mX12_keeps 89 [some (.ref a), l1, l2, l3] (S) σ = am_lim call mX12_keeps 90 [some (.ref a), l1, l2, l3] (.ref a :: S) σ := r_aload_n dX12_keeps_89 rfl
theorem eX12_keeps_90 (h : g_o σ a 12) : am_lim call mX12_keeps 90 [l0, l1, l2, l3] (.ref a :: S) σ = am_lim call mX12_keeps 93 [l0, l1, l2, l3] (.int (g_I σ a 41) :: S) σ := r_getI dX12_keeps_90 f_12_51 rfl h
theorem eX12_keeps_93 : am_lim call mX12_keeps 93 [l0, l1, some (.int x), l3] (S) σ = am_lim call mX12_keeps 94 [l0, l1, some (.int x), l3] (.int x :: S) σ := r_iload_n dX12_keeps_93 rfl
theorem eX12_keeps_94 (h : g_o σ b 12) : am_lim call mX12_keeps 94 [l0, l1, l2, l3] (.int v1 :: .int v0 :: .ref b :: []) σ = am_k (call mX12_encodes [.ref b, .int v0, .int v1] σ) (fun r σ1 => am_lim call mX12_keeps 97 [l0, l1, l2, l3] (r.toList ++ []) σ1) := r_kV (S1 := [.int v1, .int v0]) dX12_keeps_94 mt_12_495 rfl h (Nat.le_of_ble_eq_true rfl)
theorem eX12_keeps_97 : am_lim call mX12_keeps 97 [some (.ref a), l1, l2, l3] (S) σ = am_lim call mX12_keeps 98 [some (.ref a), l1, l2, l3] (.ref a :: S) σ := r_aload_n dX12_keeps_97 rfl
theorem eX12_keeps_98 : am_lim call mX12_keeps 98 [l0, l1, l2, l3] (S) σ = am_lim call mX12_keeps 99 [l0, l1, l2, l3] (.int 1 :: S) σ := r_iconst dX12_keeps_98 (by decide)
theorem eX12_keeps_99 : am_lim call mX12_keeps 99 [some (.ref a), l1, l2, l3] (S) σ = am_lim call mX12_keeps 100 [some (.ref a), l1, l2, l3] (.ref a :: S) σ := r_aload_n dX12_keeps_99 rfl
theorem eX12_keeps_100 (h : g_o σ a 12) : am_lim call mX12_keeps 100 [l0, l1, l2, l3] (.ref a :: S) σ = am_lim call mX12_keeps 103 [l0, l1, l2, l3] (.int (g_I σ a 43) :: S) σ := r_getI dX12_keeps_100 f_12_414 rfl h
theorem eX12_keeps_103 : am_lim call mX12_keeps 103 [l0, l1, l2, l3] (.int v0 :: .int s0 :: .ref q1 :: []) σ = am_k (call mX12_rowOf [.int v0] σ) (fun r σ1 => am_lim call mX12_keeps 106 [l0, l1, l2, l3] (r.toList ++ .int s0 :: .ref q1 :: []) σ1) := r_kS (S1 := [.int v0]) dX12_keeps_103 ⟨rfl, rfl, rfl⟩ mt_12_503 rfl (Nat.le_of_ble_eq_true rfl)
theorem eX12_keeps_106 (h : g_o σ b 12) : am_lim call mX12_keeps 106 [l0, l1, l2, l3] (.int v1 :: .int v0 :: .ref b :: []) σ = am_k (call mX12_copies [.ref b, .int v0, .int v1] σ) (fun r σ1 => am_lim call mX12_keeps 109 [l0, l1, l2, l3] (r.toList ++ []) σ1) := r_kV (S1 := [.int v1, .int v0]) dX12_keeps_106 mt_12_438 rfl h (Nat.le_of_ble_eq_true rfl)
theorem eX12_keeps_109 : am_lim call mX12_keeps 109 [some (.ref a), l1, l2, l3] (S) σ = am_lim call mX12_keeps 110 [some (.ref a), l1, l2, l3] (.ref a :: S) σ := r_aload_n dX12_keeps_109 rfl
theorem eX12_keeps_110 (h : g_o σ a 12) : am_lim call mX12_keeps 110 [l0, l1, l2, l3] (.ref a :: S) σ = am_lim call mX12_keeps 113 [l0, l1, l2, l3] (va_rf (g_R σ a 45) :: S) σ := r_getR dX12_keeps_110 f_12_58 rfl h
theorem eX12_keeps_113 : am_lim call mX12_keeps 113 [some (.ref a), l1, l2, l3] (S) σ = am_lim call mX12_keeps 114 [some (.ref a), l1, l2, l3] (.ref a :: S) σ := r_aload_n dX12_keeps_113 rfl
theorem eX12_keeps_114 (h : g_o σ a 12) : am_lim call mX12_keeps 114 [l0, l1, l2, l3] (.ref a :: S) σ = am_lim call mX12_keeps 117 [l0, l1, l2, l3] (.int (g_I σ a 43) :: S) σ := r_getI dX12_keeps_114 f_12_414 rfl h
theorem eX12_keeps_117 : am_lim call mX12_keeps 117 [l0, some (.int x), l2, l3] (S) σ = am_lim call mX12_keeps 118 [l0, some (.int x), l2, l3] (.int x :: S) σ := r_iload_n dX12_keeps_117 rfl
theorem eX12_keeps_118 {n : Nat} (h : g_a σ a n) (hi : am_in x n) : am_lim call mX12_keeps 118 [l0, l1, l2, l3] (.int y :: .int x :: .ref a :: S) σ = am_lim call mX12_keeps 119 [l0, l1, l2, l3] (S) (am_sI σ a x.toNatClampNeg y) := r_iast dX12_keeps_118 h hi
theorem eX12_keeps_119 : am_lim call mX12_keeps 119 [some (.ref a), l1, l2, l3] (S) σ = am_lim call mX12_keeps 120 [some (.ref a), l1, l2, l3] (.ref a :: S) σ := r_aload_n dX12_keeps_119 rfl
theorem eX12_keeps_120 (h : g_o σ a 12) : am_lim call mX12_keeps 120 [l0, l1, l2, l3] (.ref a :: S) σ = am_lim call mX12_keeps 123 [l0, l1, l2, l3] (va_rf (g_R σ a 46) :: S) σ := r_getR dX12_keeps_120 f_12_61 rfl h
theorem eX12_keeps_123 : am_lim call mX12_keeps 123 [some (.ref a), l1, l2, l3] (S) σ = am_lim call mX12_keeps 124 [some (.ref a), l1, l2, l3] (.ref a :: S) σ := r_aload_n dX12_keeps_123 rfl
theorem eX12_keeps_124 (h : g_o σ a 12) : am_lim call mX12_keeps 124 [l0, l1, l2, l3] (.ref a :: S) σ = am_lim call mX12_keeps 127 [l0, l1, l2, l3] (.int (g_I σ a 43) :: S) σ := r_getI dX12_keeps_124 f_12_414 rfl h
theorem eX12_keeps_127 : am_lim call mX12_keeps 127 [l0, l1, some (.int x), l3] (S) σ = am_lim call mX12_keeps 128 [l0, l1, some (.int x), l3] (.int x :: S) σ := r_iload_n dX12_keeps_127 rfl
theorem eX12_keeps_128 {n : Nat} (h : g_a σ a n) (hi : am_in x n) : am_lim call mX12_keeps 128 [l0, l1, l2, l3] (.int y :: .int x :: .ref a :: S) σ = am_lim call mX12_keeps 129 [l0, l1, l2, l3] (S) (am_sI σ a x.toNatClampNeg y) := r_iast dX12_keeps_128 h hi
theorem eX12_keeps_129 : am_lim call mX12_keeps 129 [some (.ref a), l1, l2, l3] (S) σ = am_lim call mX12_keeps 130 [some (.ref a), l1, l2, l3] (.ref a :: S) σ := r_aload_n dX12_keeps_129 rfl
theorem eX12_keeps_130 (h : g_o σ a 12) : am_lim call mX12_keeps 130 [l0, l1, l2, l3] (.ref a :: S) σ = am_lim call mX12_keeps 133 [l0, l1, l2, l3] (va_rf (g_R σ a 47) :: S) σ := r_getR dX12_keeps_130 f_12_64 rfl h
theorem eX12_keeps_133 : am_lim call mX12_keeps 133 [some (.ref a), l1, l2, l3] (S) σ = am_lim call mX12_keeps 134 [some (.ref a), l1, l2, l3] (.ref a :: S) σ := r_aload_n dX12_keeps_133 rfl
theorem eX12_keeps_134 (h : g_o σ a 12) : am_lim call mX12_keeps 134 [l0, l1, l2, l3] (.ref a :: S) σ = am_lim call mX12_keeps 137 [l0, l1, l2, l3] (.int (g_I σ a 43) :: S) σ := r_getI dX12_keeps_134 f_12_414 rfl h
theorem eX12_keeps_137 : am_lim call mX12_keeps 137 [some (.ref a), l1, l2, l3] (S) σ = am_lim call mX12_keeps 138 [some (.ref a), l1, l2, l3] (.ref a :: S) σ := r_aload_n dX12_keeps_137 rfl
theorem eX12_keeps_138 (h : g_o σ a 12) : am_lim call mX12_keeps 138 [l0, l1, l2, l3] (.ref a :: S) σ = am_lim call mX12_keeps 141 [l0, l1, l2, l3] (.int (g_I σ a 50) :: S) σ := r_getI dX12_keeps_138 f_12_441 rfl h
theorem eX12_keeps_141 {n : Nat} (h : g_a σ a n) (hi : am_in x n) : am_lim call mX12_keeps 141 [l0, l1, l2, l3] (.int y :: .int x :: .ref a :: S) σ = am_lim call mX12_keeps 142 [l0, l1, l2, l3] (S) (am_sI σ a x.toNatClampNeg y) := r_iast dX12_keeps_141 h hi
theorem eX12_keeps_142 : am_lim call mX12_keeps 142 [some (.ref a), l1, l2, l3] (S) σ = am_lim call mX12_keeps 143 [some (.ref a), l1, l2, l3] (.ref a :: S) σ := r_aload_n dX12_keeps_142 rfl
theorem eX12_keeps_143 : am_lim call mX12_keeps 143 [l0, l1, l2, l3] (.ref a :: S) σ = am_lim call mX12_keeps 144 [l0, l1, l2, l3] (.ref a :: .ref a :: S) σ := r_dupA dX12_keeps_143
theorem eX12_keeps_144 (h : g_o σ a 12) : am_lim call mX12_keeps 144 [l0, l1, l2, l3] (.ref a :: S) σ = am_lim call mX12_keeps 147 [l0, l1, l2, l3] (.int (g_I σ a 43) :: S) σ := r_getI dX12_keeps_144 f_12_414 rfl h
theorem eX12_keeps_147 : am_lim call mX12_keeps 147 [l0, l1, l2, l3] (S) σ = am_lim call mX12_keeps 148 [l0, l1, l2, l3] (.int 1 :: S) σ := r_iconst dX12_keeps_147 (by decide)
theorem eX12_keeps_148 : am_lim call mX12_keeps 148 [l0, l1, l2, l3] (.int y :: .int x :: S) σ = am_lim call mX12_keeps 149 [l0, l1, l2, l3] (.int (x + y) :: S) σ := r_iadd dX12_keeps_148
theorem eX12_keeps_149 (h : g_o σ a 12) : am_lim call mX12_keeps 149 [l0, l1, l2, l3] (.int x :: .ref a :: S) σ = am_lim call mX12_keeps 152 [l0, l1, l2, l3] (S) (am_sI σ a 43 x) := r_putI dX12_keeps_149 f_12_414 rfl rfl h
theorem eX12_keeps_152 : am_lim call mX12_keeps 152 [some (.ref a), l1, l2, l3] (S) σ = am_lim call mX12_keeps 153 [some (.ref a), l1, l2, l3] (.ref a :: S) σ := r_aload_n dX12_keeps_152 rfl
theorem eX12_keeps_153 : am_lim call mX12_keeps 153 [l0, l1, l2, l3] (S) σ = am_lim call mX12_keeps 154 [l0, l1, l2, l3] (.int 1 :: S) σ := r_iconst dX12_keeps_153 (by decide)
theorem eX12_keeps_154 (h : g_o σ a 12) (hx : x = 0 ∨ x = 1) : am_lim call mX12_keeps 154 [l0, l1, l2, l3] (.int x :: .ref a :: S) σ = am_lim call mX12_keeps 157 [l0, l1, l2, l3] (S) (am_sI σ a 38 x) := r_putZ dX12_keeps_154 f_12_435 rfl rfl h hx
theorem eX12_keeps_157 : am_lim call mX12_keeps 157 [some (.ref a), l1, l2, l3] (S) σ = am_lim call mX12_keeps 158 [some (.ref a), l1, l2, l3] (.ref a :: S) σ := r_aload_n dX12_keeps_157 rfl
theorem eX12_keeps_158 (h : g_o σ a 12) : am_lim call mX12_keeps 158 [l0, l1, l2, l3] (.ref a :: S) σ = am_lim call mX12_keeps 161 [l0, l1, l2, l3] (.int (g_I σ a 43) :: S) σ := r_getI dX12_keeps_158 f_12_414 rfl h
theorem eX12_keeps_161 : am_lim call mX12_keeps 161 [l0, l1, l2, l3] ([.int x]) σ = some (some (.int x), σ) := r_retI dX12_keeps_161 rfl
theorem eX12_keeps_48 : am_lim call mX12_keeps 48 [l0, l1, l2, l3] (S) σ = am_lim call mX12_keeps 49 [l0, l1, l2, l3] (.int (-1) :: S) σ := r_iconst dX12_keeps_48 (by decide)
theorem eX12_keeps_49 : am_lim call mX12_keeps 49 [l0, l1, l2, l3] ([.int x]) σ = some (some (.int x), σ) := r_retI dX12_keeps_49 rfl
theorem nX12_keeps {d : Nat} : am_run (d + 1) mX12_keeps [.ref b, .int v0] σ = am_lim (am_run d) mX12_keeps 0 [some (.ref b), some (.int v0), none, none] [] σ := am_run_S rfl rfl rfl rfl
theorem dX12_isIn_0 : decode cX12_isIn 0 = .ok (.lload_n 0, 1) := by decide +kernel
theorem dX12_isIn_1 : decode cX12_isIn 1 = .ok (.lload_n 2, 1) := by decide +kernel
theorem dX12_isIn_2 : decode cX12_isIn 2 = .ok (.lcmp, 1) := by decide +kernel
theorem dX12_isIn_3 : decode cX12_isIn 3 = .ok (.ifCond .lt 14, 3) := by decide +kernel
theorem dX12_isIn_6 : decode cX12_isIn 6 = .ok (.lload_n 0, 1) := by decide +kernel
theorem dX12_isIn_7 : decode cX12_isIn 7 = .ok (.lload 4, 2) := by decide +kernel
theorem dX12_isIn_9 : decode cX12_isIn 9 = .ok (.lcmp, 1) := by decide +kernel
theorem dX12_isIn_10 : decode cX12_isIn 10 = .ok (.ifCond .gt 7, 3) := by decide +kernel
theorem dX12_isIn_13 : decode cX12_isIn 13 = .ok (.iconst 1, 1) := by decide +kernel
theorem dX12_isIn_14 : decode cX12_isIn 14 = .ok (.goto 4, 3) := by decide +kernel
theorem dX12_isIn_17 : decode cX12_isIn 17 = .ok (.iconst 0, 1) := by decide +kernel
theorem dX12_isIn_18 : decode cX12_isIn 18 = .ok (.ireturn, 1) := by decide +kernel
theorem eX12_isIn_0 : am_lim call mX12_isIn 0 [some (.long z), l1, l2, l3, l4, l5] (S) σ = am_lim call mX12_isIn 1 [some (.long z), l1, l2, l3, l4, l5] (.long z :: S) σ := r_lload_n dX12_isIn_0 rfl
theorem eX12_isIn_1 : am_lim call mX12_isIn 1 [l0, l1, some (.long z), l3, l4, l5] (S) σ = am_lim call mX12_isIn 2 [l0, l1, some (.long z), l3, l4, l5] (.long z :: S) σ := r_lload_n dX12_isIn_1 rfl
theorem eX12_isIn_2 : am_lim call mX12_isIn 2 [l0, l1, l2, l3, l4, l5] (.long z2 :: .long z :: S) σ = am_lim call mX12_isIn 3 [l0, l1, l2, l3, l4, l5] (.int (lg_cmp z z2) :: S) σ := r_lcmp dX12_isIn_2
theorem eX12_isIn_3 : am_lim call mX12_isIn 3 [l0, l1, l2, l3, l4, l5] (.int x :: S) σ = if x < 0 then am_lim call mX12_isIn 17 [l0, l1, l2, l3, l4, l5] (S) σ else am_lim call mX12_isIn 6 [l0, l1, l2, l3, l4, l5] (S) σ := r_ifB 17 dX12_isIn_3 (by decide) rfl
theorem eX12_isIn_6 : am_lim call mX12_isIn 6 [some (.long z), l1, l2, l3, l4, l5] (S) σ = am_lim call mX12_isIn 7 [some (.long z), l1, l2, l3, l4, l5] (.long z :: S) σ := r_lload_n dX12_isIn_6 rfl
theorem eX12_isIn_7 : am_lim call mX12_isIn 7 [l0, l1, l2, l3, some (.long z), l5] (S) σ = am_lim call mX12_isIn 9 [l0, l1, l2, l3, some (.long z), l5] (.long z :: S) σ := r_lload dX12_isIn_7 rfl
theorem eX12_isIn_9 : am_lim call mX12_isIn 9 [l0, l1, l2, l3, l4, l5] (.long z2 :: .long z :: S) σ = am_lim call mX12_isIn 10 [l0, l1, l2, l3, l4, l5] (.int (lg_cmp z z2) :: S) σ := r_lcmp dX12_isIn_9
theorem eX12_isIn_10 : am_lim call mX12_isIn 10 [l0, l1, l2, l3, l4, l5] (.int x :: S) σ = if 0 < x then am_lim call mX12_isIn 17 [l0, l1, l2, l3, l4, l5] (S) σ else am_lim call mX12_isIn 13 [l0, l1, l2, l3, l4, l5] (S) σ := r_ifB 17 dX12_isIn_10 (by decide) rfl
theorem eX12_isIn_13 : am_lim call mX12_isIn 13 [l0, l1, l2, l3, l4, l5] (S) σ = am_lim call mX12_isIn 14 [l0, l1, l2, l3, l4, l5] (.int 1 :: S) σ := r_iconst dX12_isIn_13 (by decide)
theorem eX12_isIn_14 : am_lim call mX12_isIn 14 [l0, l1, l2, l3, l4, l5] (S) σ = am_lim call mX12_isIn 18 [l0, l1, l2, l3, l4, l5] (S) σ := r_goto 18 dX12_isIn_14 (by decide)
theorem eX12_isIn_18 (hx : x = 0 ∨ x = 1) : am_lim call mX12_isIn 18 [l0, l1, l2, l3, l4, l5] ([.int x]) σ = some (some (.int x), σ) := r_retZ dX12_isIn_18 rfl hx
theorem eX12_isIn_17 : am_lim call mX12_isIn 17 [l0, l1, l2, l3, l4, l5] (S) σ = am_lim call mX12_isIn 18 [l0, l1, l2, l3, l4, l5] (.int 0 :: S) σ := r_iconst dX12_isIn_17 (by decide)
theorem nX12_isIn {d : Nat} : am_run (d + 1) mX12_isIn [.long w0, .long w1, .long w2] σ = am_lim (am_run d) mX12_isIn 0 [some (.long w0), none, some (.long w1), none, some (.long w2), none] [] σ := am_run_S rfl rfl rfl rfl
theorem dX12_isOnShelf_0 : decode cX12_isOnShelf 0 = .ok (.iconst 0, 1) := by decide +kernel
theorem dX12_isOnShelf_1 : decode cX12_isOnShelf 1 = .ok (.istore_n 2, 1) := by decide +kernel
theorem dX12_isOnShelf_2 : decode cX12_isOnShelf 2 = .ok (.iload_n 2, 1) := by decide +kernel
theorem dX12_isOnShelf_3 : decode cX12_isOnShelf 3 = .ok (.aload_n 0, 1) := by decide +kernel
theorem dX12_isOnShelf_4 : decode cX12_isOnShelf 4 = .ok (.getfield 414, 3) := by decide +kernel
theorem dX12_isOnShelf_7 : decode cX12_isOnShelf 7 = .ok (.if_icmp .ge 21, 3) := by decide +kernel
theorem dX12_isOnShelf_10 : decode cX12_isOnShelf 10 = .ok (.aload_n 0, 1) := by decide +kernel
theorem dX12_isOnShelf_11 : decode cX12_isOnShelf 11 = .ok (.getfield 58, 3) := by decide +kernel
theorem dX12_isOnShelf_14 : decode cX12_isOnShelf 14 = .ok (.iload_n 2, 1) := by decide +kernel
theorem dX12_isOnShelf_15 : decode cX12_isOnShelf 15 = .ok (.iaload, 1) := by decide +kernel
theorem dX12_isOnShelf_16 : decode cX12_isOnShelf 16 = .ok (.iload_n 1, 1) := by decide +kernel
theorem dX12_isOnShelf_17 : decode cX12_isOnShelf 17 = .ok (.if_icmp .ne 5, 3) := by decide +kernel
theorem dX12_isOnShelf_20 : decode cX12_isOnShelf 20 = .ok (.iconst 1, 1) := by decide +kernel
theorem dX12_isOnShelf_21 : decode cX12_isOnShelf 21 = .ok (.ireturn, 1) := by decide +kernel
theorem dX12_isOnShelf_22 : decode cX12_isOnShelf 22 = .ok (.iinc 2 1, 3) := by decide +kernel
theorem dX12_isOnShelf_25 : decode cX12_isOnShelf 25 = .ok (.goto (-23), 3) := by decide +kernel
theorem dX12_isOnShelf_28 : decode cX12_isOnShelf 28 = .ok (.iconst 0, 1) := by decide +kernel
theorem dX12_isOnShelf_29 : decode cX12_isOnShelf 29 = .ok (.ireturn, 1) := by decide +kernel
theorem eX12_isOnShelf_0 : am_lim call mX12_isOnShelf 0 [l0, l1, l2] (S) σ = am_lim call mX12_isOnShelf 1 [l0, l1, l2] (.int 0 :: S) σ := r_iconst dX12_isOnShelf_0 (by decide)
theorem eX12_isOnShelf_1 : am_lim call mX12_isOnShelf 1 [l0, l1, l2] (.int x :: S) σ = am_lim call mX12_isOnShelf 2 [l0, l1, some (.int x)] (S) σ := r_istore_n dX12_isOnShelf_1 rfl rfl rfl rfl
theorem eX12_isOnShelf_2 : am_lim call mX12_isOnShelf 2 [l0, l1, some (.int x)] (S) σ = am_lim call mX12_isOnShelf 3 [l0, l1, some (.int x)] (.int x :: S) σ := r_iload_n dX12_isOnShelf_2 rfl
theorem eX12_isOnShelf_3 : am_lim call mX12_isOnShelf 3 [some (.ref a), l1, l2] (S) σ = am_lim call mX12_isOnShelf 4 [some (.ref a), l1, l2] (.ref a :: S) σ := r_aload_n dX12_isOnShelf_3 rfl
theorem eX12_isOnShelf_4 (h : g_o σ a 12) : am_lim call mX12_isOnShelf 4 [l0, l1, l2] (.ref a :: S) σ = am_lim call mX12_isOnShelf 7 [l0, l1, l2] (.int (g_I σ a 43) :: S) σ := r_getI dX12_isOnShelf_4 f_12_414 rfl h
theorem eX12_isOnShelf_7 : am_lim call mX12_isOnShelf 7 [l0, l1, l2] (.int y :: .int x :: S) σ = if y ≤ x then am_lim call mX12_isOnShelf 28 [l0, l1, l2] (S) σ else am_lim call mX12_isOnShelf 10 [l0, l1, l2] (S) σ := r_icmpB 28 dX12_isOnShelf_7 (by decide) rfl
theorem eX12_isOnShelf_10 : am_lim call mX12_isOnShelf 10 [some (.ref a), l1, l2] (S) σ = am_lim call mX12_isOnShelf 11 [some (.ref a), l1, l2] (.ref a :: S) σ := r_aload_n dX12_isOnShelf_10 rfl
theorem eX12_isOnShelf_11 (h : g_o σ a 12) : am_lim call mX12_isOnShelf 11 [l0, l1, l2] (.ref a :: S) σ = am_lim call mX12_isOnShelf 14 [l0, l1, l2] (va_rf (g_R σ a 45) :: S) σ := r_getR dX12_isOnShelf_11 f_12_58 rfl h
theorem eX12_isOnShelf_14 : am_lim call mX12_isOnShelf 14 [l0, l1, some (.int x)] (S) σ = am_lim call mX12_isOnShelf 15 [l0, l1, some (.int x)] (.int x :: S) σ := r_iload_n dX12_isOnShelf_14 rfl
theorem eX12_isOnShelf_15 {n : Nat} (h : g_a σ a n) (hi : am_in x n) : am_lim call mX12_isOnShelf 15 [l0, l1, l2] (.int x :: .ref a :: S) σ = am_lim call mX12_isOnShelf 16 [l0, l1, l2] (.int (g_I σ a x.toNatClampNeg) :: S) σ := r_iald dX12_isOnShelf_15 h hi
theorem eX12_isOnShelf_16 : am_lim call mX12_isOnShelf 16 [l0, some (.int x), l2] (S) σ = am_lim call mX12_isOnShelf 17 [l0, some (.int x), l2] (.int x :: S) σ := r_iload_n dX12_isOnShelf_16 rfl
theorem eX12_isOnShelf_17 : am_lim call mX12_isOnShelf 17 [l0, l1, l2] (.int y :: .int x :: S) σ = if x ≠ y then am_lim call mX12_isOnShelf 22 [l0, l1, l2] (S) σ else am_lim call mX12_isOnShelf 20 [l0, l1, l2] (S) σ := r_icmpB 22 dX12_isOnShelf_17 (by decide) rfl
theorem eX12_isOnShelf_20 : am_lim call mX12_isOnShelf 20 [l0, l1, l2] (S) σ = am_lim call mX12_isOnShelf 21 [l0, l1, l2] (.int 1 :: S) σ := r_iconst dX12_isOnShelf_20 (by decide)
theorem eX12_isOnShelf_21 (hx : x = 0 ∨ x = 1) : am_lim call mX12_isOnShelf 21 [l0, l1, l2] ([.int x]) σ = some (some (.int x), σ) := r_retZ dX12_isOnShelf_21 rfl hx
theorem eX12_isOnShelf_22 : am_lim call mX12_isOnShelf 22 [l0, l1, some (.int x)] (S) σ = am_lim call mX12_isOnShelf 25 [l0, l1, some (.int (x + 1))] (S) σ := r_iinc dX12_isOnShelf_22 rfl (by decide) rfl rfl rfl rfl
theorem eX12_isOnShelf_25 : am_lim call mX12_isOnShelf 25 [l0, l1, l2] (S) σ = am_lim call mX12_isOnShelf 2 [l0, l1, l2] (S) σ := r_goto 2 dX12_isOnShelf_25 (by decide)
theorem eX12_isOnShelf_28 : am_lim call mX12_isOnShelf 28 [l0, l1, l2] (S) σ = am_lim call mX12_isOnShelf 29 [l0, l1, l2] (.int 0 :: S) σ := r_iconst dX12_isOnShelf_28 (by decide)
theorem eX12_isOnShelf_29 (hx : x = 0 ∨ x = 1) : am_lim call mX12_isOnShelf 29 [l0, l1, l2] ([.int x]) σ = some (some (.int x), σ) := r_retZ dX12_isOnShelf_29 rfl hx
theorem nX12_isOnShelf {d : Nat} : am_run (d + 1) mX12_isOnShelf [.ref b, .int v0] σ = am_lim (am_run d) mX12_isOnShelf 0 [some (.ref b), some (.int v0), none] [] σ := am_run_S rfl rfl rfl rfl
theorem dX11_entry_0 : decode cX11_entry 0 = .ok (.aload_n 0, 1) := by decide +kernel
theorem dX11_entry_1 : decode cX11_entry 1 = .ok (.getfield 29, 3) := by decide +kernel
theorem dX11_entry_4 : decode cX11_entry 4 = .ok (.getfield 137, 3) := by decide +kernel
theorem dX11_entry_7 : decode cX11_entry 7 = .ok (.astore_n 3, 1) := by decide +kernel
theorem dX11_entry_8 : decode cX11_entry 8 = .ok (.iload_n 1, 1) := by decide +kernel
theorem dX11_entry_9 : decode cX11_entry 9 = .ok (.ifCond .lt 11, 3) := by decide +kernel
theorem dX11_entry_12 : decode cX11_entry 12 = .ok (.iload_n 1, 1) := by decide +kernel
theorem dX11_entry_13 : decode cX11_entry 13 = .ok (.aload_n 3, 1) := by decide +kernel
theorem dX11_entry_14 : decode cX11_entry 14 = .ok (.getfield 149, 3) := by decide +kernel
theorem dX11_entry_17 : decode cX11_entry 17 = .ok (.if_icmp .lt 5, 3) := by decide +kernel
theorem dX11_entry_20 : decode cX11_entry 20 = .ok (.iconst (-1), 1) := by decide +kernel
theorem dX11_entry_21 : decode cX11_entry 21 = .ok (.ireturn, 1) := by decide +kernel
theorem dX11_entry_22 : decode cX11_entry 22 = .ok (.iload_n 2, 1) := by decide +kernel
theorem dX11_entry_23 : decode cX11_entry 23 = .ok (.tableswitch 45 0 2 #[25, 32, 39], 25) := by decide +kernel
theorem dX11_entry_48 : decode cX11_entry 48 = .ok (.aload_n 3, 1) := by decide +kernel
theorem dX11_entry_49 : decode cX11_entry 49 = .ok (.getfield 182, 3) := by decide +kernel
theorem dX11_entry_52 : decode cX11_entry 52 = .ok (.iload_n 1, 1) := by decide +kernel
theorem dX11_entry_53 : decode cX11_entry 53 = .ok (.iaload, 1) := by decide +kernel
theorem dX11_entry_54 : decode cX11_entry 54 = .ok (.ireturn, 1) := by decide +kernel
theorem dX11_entry_55 : decode cX11_entry 55 = .ok (.aload_n 3, 1) := by decide +kernel
theorem dX11_entry_56 : decode cX11_entry 56 = .ok (.getfield 185, 3) := by decide +kernel
theorem dX11_entry_59 : decode cX11_entry 59 = .ok (.iload_n 1, 1) := by decide +kernel
theorem dX11_entry_60 : decode cX11_entry 60 = .ok (.iaload, 1) := by decide +kernel
theorem dX11_entry_61 : decode cX11_entry 61 = .ok (.ireturn, 1) := by decide +kernel
theorem dX11_entry_62 : decode cX11_entry 62 = .ok (.aload_n 3, 1) := by decide +kernel
theorem dX11_entry_63 : decode cX11_entry 63 = .ok (.iload_n 1, 1) := by decide +kernel
theorem dX11_entry_64 : decode cX11_entry 64 = .ok (.invokevirtual 188, 3) := by decide +kernel
theorem dX11_entry_67 : decode cX11_entry 67 = .ok (.ireturn, 1) := by decide +kernel
theorem dX11_entry_68 : decode cX11_entry 68 = .ok (.iconst (-1), 1) := by decide +kernel
theorem dX11_entry_69 : decode cX11_entry 69 = .ok (.ireturn, 1) := by decide +kernel
theorem eX11_entry_0 : am_lim call mX11_entry 0 [some (.ref a), l1, l2, l3] (S) σ = am_lim call mX11_entry 1 [some (.ref a), l1, l2, l3] (.ref a :: S) σ := r_aload_n dX11_entry_0 rfl
theorem eX11_entry_1 (h : g_o σ a 11) : am_lim call mX11_entry 1 [l0, l1, l2, l3] (.ref a :: S) σ = am_lim call mX11_entry 4 [l0, l1, l2, l3] (va_rf (g_R σ a 5) :: S) σ := r_getR dX11_entry_1 f_11_29 rfl h
theorem eX11_entry_4 (h : g_o σ a 2) : am_lim call mX11_entry 4 [l0, l1, l2, l3] (.ref a :: S) σ = am_lim call mX11_entry 7 [l0, l1, l2, l3] (va_rf (g_R σ a 0) :: S) σ := r_getR dX11_entry_4 f_11_137 rfl h
theorem eX11_entry_7 : am_lim call mX11_entry 7 [l0, l1, l2, l3] (.ref a :: S) σ = am_lim call mX11_entry 8 [l0, l1, l2, some (.ref a)] (S) σ := r_astore_n dX11_entry_7 rfl rfl rfl rfl
theorem eX11_entry_8 : am_lim call mX11_entry 8 [l0, some (.int x), l2, l3] (S) σ = am_lim call mX11_entry 9 [l0, some (.int x), l2, l3] (.int x :: S) σ := r_iload_n dX11_entry_8 rfl
theorem eX11_entry_9 : am_lim call mX11_entry 9 [l0, l1, l2, l3] (.int x :: S) σ = if x < 0 then am_lim call mX11_entry 20 [l0, l1, l2, l3] (S) σ else am_lim call mX11_entry 12 [l0, l1, l2, l3] (S) σ := r_ifB 20 dX11_entry_9 (by decide) rfl
theorem eX11_entry_12 : am_lim call mX11_entry 12 [l0, some (.int x), l2, l3] (S) σ = am_lim call mX11_entry 13 [l0, some (.int x), l2, l3] (.int x :: S) σ := r_iload_n dX11_entry_12 rfl
theorem eX11_entry_13 : am_lim call mX11_entry 13 [l0, l1, l2, some (.ref a)] (S) σ = am_lim call mX11_entry 14 [l0, l1, l2, some (.ref a)] (.ref a :: S) σ := r_aload_n dX11_entry_13 rfl
theorem eX11_entry_14 (h : g_o σ a 0) : am_lim call mX11_entry 14 [l0, l1, l2, l3] (.ref a :: S) σ = am_lim call mX11_entry 17 [l0, l1, l2, l3] (.int (g_I σ a 4) :: S) σ := r_getI dX11_entry_14 f_11_149 rfl h
theorem eX11_entry_17 : am_lim call mX11_entry 17 [l0, l1, l2, l3] (.int y :: .int x :: S) σ = if x < y then am_lim call mX11_entry 22 [l0, l1, l2, l3] (S) σ else am_lim call mX11_entry 20 [l0, l1, l2, l3] (S) σ := r_icmpB 22 dX11_entry_17 (by decide) rfl
theorem eX11_entry_22 : am_lim call mX11_entry 22 [l0, l1, some (.int x), l3] (S) σ = am_lim call mX11_entry 23 [l0, l1, some (.int x), l3] (.int x :: S) σ := r_iload_n dX11_entry_22 rfl
theorem eX11_entry_23_0 : am_lim call mX11_entry 23 [l0, l1, l2, l3] (.int 0 :: S) σ = am_lim call mX11_entry 48 [l0, l1, l2, l3] (S) σ := r_tsK (off := 25) 48 dX11_entry_23 (by decide) (by decide) (by decide)
theorem eX11_entry_23_1 : am_lim call mX11_entry 23 [l0, l1, l2, l3] (.int 1 :: S) σ = am_lim call mX11_entry 55 [l0, l1, l2, l3] (S) σ := r_tsK (off := 32) 55 dX11_entry_23 (by decide) (by decide) (by decide)
theorem eX11_entry_23_2 : am_lim call mX11_entry 23 [l0, l1, l2, l3] (.int 2 :: S) σ = am_lim call mX11_entry 62 [l0, l1, l2, l3] (S) σ := r_tsK (off := 39) 62 dX11_entry_23 (by decide) (by decide) (by decide)
theorem eX11_entry_23_d (h : x.toInt < 0 ∨ 2 < x.toInt) : am_lim call mX11_entry 23 [l0, l1, l2, l3] (.int x :: S) σ = am_lim call mX11_entry 68 [l0, l1, l2, l3] (S) σ := r_tsD 68 dX11_entry_23 h (by decide)
theorem eX11_entry_68 : am_lim call mX11_entry 68 [l0, l1, l2, l3] (S) σ = am_lim call mX11_entry 69 [l0, l1, l2, l3] (.int (-1) :: S) σ := r_iconst dX11_entry_68 (by decide)
theorem eX11_entry_69 : am_lim call mX11_entry 69 [l0, l1, l2, l3] ([.int x]) σ = some (some (.int x), σ) := r_retI dX11_entry_69 rfl
theorem eX11_entry_62 : am_lim call mX11_entry 62 [l0, l1, l2, some (.ref a)] (S) σ = am_lim call mX11_entry 63 [l0, l1, l2, some (.ref a)] (.ref a :: S) σ := r_aload_n dX11_entry_62 rfl
theorem eX11_entry_63 : am_lim call mX11_entry 63 [l0, some (.int x), l2, l3] (S) σ = am_lim call mX11_entry 64 [l0, some (.int x), l2, l3] (.int x :: S) σ := r_iload_n dX11_entry_63 rfl
theorem eX11_entry_64 (h : g_o σ b 0) : am_lim call mX11_entry 64 [l0, l1, l2, l3] (.int v0 :: .ref b :: []) σ = am_k (call mX0_lengthOf [.ref b, .int v0] σ) (fun r σ1 => am_lim call mX11_entry 67 [l0, l1, l2, l3] (r.toList ++ []) σ1) := r_kV (S1 := [.int v0]) dX11_entry_64 mt_11_188 rfl h (Nat.le_of_ble_eq_true rfl)
theorem eX11_entry_67 : am_lim call mX11_entry 67 [l0, l1, l2, l3] ([.int x]) σ = some (some (.int x), σ) := r_retI dX11_entry_67 rfl
theorem eX11_entry_55 : am_lim call mX11_entry 55 [l0, l1, l2, some (.ref a)] (S) σ = am_lim call mX11_entry 56 [l0, l1, l2, some (.ref a)] (.ref a :: S) σ := r_aload_n dX11_entry_55 rfl
theorem eX11_entry_56 (h : g_o σ a 0) : am_lim call mX11_entry 56 [l0, l1, l2, l3] (.ref a :: S) σ = am_lim call mX11_entry 59 [l0, l1, l2, l3] (va_rf (g_R σ a 1) :: S) σ := r_getR dX11_entry_56 f_11_185 rfl h
theorem eX11_entry_59 : am_lim call mX11_entry 59 [l0, some (.int x), l2, l3] (S) σ = am_lim call mX11_entry 60 [l0, some (.int x), l2, l3] (.int x :: S) σ := r_iload_n dX11_entry_59 rfl
theorem eX11_entry_60 {n : Nat} (h : g_a σ a n) (hi : am_in x n) : am_lim call mX11_entry 60 [l0, l1, l2, l3] (.int x :: .ref a :: S) σ = am_lim call mX11_entry 61 [l0, l1, l2, l3] (.int (g_I σ a x.toNatClampNeg) :: S) σ := r_iald dX11_entry_60 h hi
theorem eX11_entry_61 : am_lim call mX11_entry 61 [l0, l1, l2, l3] ([.int x]) σ = some (some (.int x), σ) := r_retI dX11_entry_61 rfl
theorem eX11_entry_48 : am_lim call mX11_entry 48 [l0, l1, l2, some (.ref a)] (S) σ = am_lim call mX11_entry 49 [l0, l1, l2, some (.ref a)] (.ref a :: S) σ := r_aload_n dX11_entry_48 rfl
theorem eX11_entry_49 (h : g_o σ a 0) : am_lim call mX11_entry 49 [l0, l1, l2, l3] (.ref a :: S) σ = am_lim call mX11_entry 52 [l0, l1, l2, l3] (va_rf (g_R σ a 0) :: S) σ := r_getR dX11_entry_49 f_11_182 rfl h
theorem eX11_entry_52 : am_lim call mX11_entry 52 [l0, some (.int x), l2, l3] (S) σ = am_lim call mX11_entry 53 [l0, some (.int x), l2, l3] (.int x :: S) σ := r_iload_n dX11_entry_52 rfl
theorem eX11_entry_53 {n : Nat} (h : g_a σ a n) (hi : am_in x n) : am_lim call mX11_entry 53 [l0, l1, l2, l3] (.int x :: .ref a :: S) σ = am_lim call mX11_entry 54 [l0, l1, l2, l3] (.int (g_I σ a x.toNatClampNeg) :: S) σ := r_iald dX11_entry_53 h hi
theorem eX11_entry_54 : am_lim call mX11_entry 54 [l0, l1, l2, l3] ([.int x]) σ = some (some (.int x), σ) := r_retI dX11_entry_54 rfl
theorem eX11_entry_20 : am_lim call mX11_entry 20 [l0, l1, l2, l3] (S) σ = am_lim call mX11_entry 21 [l0, l1, l2, l3] (.int (-1) :: S) σ := r_iconst dX11_entry_20 (by decide)
theorem eX11_entry_21 : am_lim call mX11_entry 21 [l0, l1, l2, l3] ([.int x]) σ = some (some (.int x), σ) := r_retI dX11_entry_21 rfl
theorem nX11_entry {d : Nat} : am_run (d + 1) mX11_entry [.ref b, .int v0, .int v1] σ = am_lim (am_run d) mX11_entry 0 [some (.ref b), some (.int v0), some (.int v1), none] [] σ := am_run_S rfl rfl rfl rfl
theorem dX12_entry_0 : decode cX12_entry 0 = .ok (.aload_n 0, 1) := by decide +kernel
theorem dX12_entry_1 : decode cX12_entry 1 = .ok (.iconst 0, 1) := by decide +kernel
theorem dX12_entry_2 : decode cX12_entry 2 = .ok (.putfield 113, 3) := by decide +kernel
theorem dX12_entry_5 : decode cX12_entry 5 = .ok (.aload_n 0, 1) := by decide +kernel
theorem dX12_entry_6 : decode cX12_entry 6 = .ok (.iload_n 1, 1) := by decide +kernel
theorem dX12_entry_7 : decode cX12_entry 7 = .ok (.invokevirtual 490, 3) := by decide +kernel
theorem dX12_entry_10 : decode cX12_entry 10 = .ok (.ifCond .eq 15, 3) := by decide +kernel
theorem dX12_entry_13 : decode cX12_entry 13 = .ok (.iload_n 2, 1) := by decide +kernel
theorem dX12_entry_14 : decode cX12_entry 14 = .ok (.i2l, 1) := by decide +kernel
theorem dX12_entry_15 : decode cX12_entry 15 = .ok (.lconst 0, 1) := by decide +kernel
theorem dX12_entry_16 : decode cX12_entry 16 = .ok (.ldc2_w 197, 3) := by decide +kernel
theorem dX12_entry_19 : decode cX12_entry 19 = .ok (.invokestatic 199, 3) := by decide +kernel
theorem dX12_entry_22 : decode cX12_entry 22 = .ok (.ifCond .ne 5, 3) := by decide +kernel
theorem dX12_entry_25 : decode cX12_entry 25 = .ok (.iconst (-1), 1) := by decide +kernel
theorem dX12_entry_26 : decode cX12_entry 26 = .ok (.ireturn, 1) := by decide +kernel
theorem dX12_entry_27 : decode cX12_entry 27 = .ok (.iload_n 2, 1) := by decide +kernel
theorem dX12_entry_28 : decode cX12_entry 28 = .ok (.ifCond .ne 12, 3) := by decide +kernel
theorem dX12_entry_31 : decode cX12_entry 31 = .ok (.aload_n 0, 1) := by decide +kernel
theorem dX12_entry_32 : decode cX12_entry 32 = .ok (.getfield 36, 3) := by decide +kernel
theorem dX12_entry_35 : decode cX12_entry 35 = .ok (.iload_n 1, 1) := by decide +kernel
theorem dX12_entry_36 : decode cX12_entry 36 = .ok (.iaload, 1) := by decide +kernel
theorem dX12_entry_37 : decode cX12_entry 37 = .ok (.goto 41, 3) := by decide +kernel
theorem dX12_entry_40 : decode cX12_entry 40 = .ok (.iload_n 2, 1) := by decide +kernel
theorem dX12_entry_41 : decode cX12_entry 41 = .ok (.iconst 1, 1) := by decide +kernel
theorem dX12_entry_42 : decode cX12_entry 42 = .ok (.if_icmp .ne 12, 3) := by decide +kernel
theorem dX12_entry_45 : decode cX12_entry 45 = .ok (.aload_n 0, 1) := by decide +kernel
theorem dX12_entry_46 : decode cX12_entry 46 = .ok (.getfield 39, 3) := by decide +kernel
theorem dX12_entry_49 : decode cX12_entry 49 = .ok (.iload_n 1, 1) := by decide +kernel
theorem dX12_entry_50 : decode cX12_entry 50 = .ok (.iaload, 1) := by decide +kernel
theorem dX12_entry_51 : decode cX12_entry 51 = .ok (.goto 27, 3) := by decide +kernel
theorem dX12_entry_54 : decode cX12_entry 54 = .ok (.aload_n 0, 1) := by decide +kernel
theorem dX12_entry_55 : decode cX12_entry 55 = .ok (.getfield 42, 3) := by decide +kernel
theorem dX12_entry_58 : decode cX12_entry 58 = .ok (.iload_n 1, 1) := by decide +kernel
theorem dX12_entry_59 : decode cX12_entry 59 = .ok (.iaload, 1) := by decide +kernel
theorem dX12_entry_60 : decode cX12_entry 60 = .ok (.iconst (-1), 1) := by decide +kernel
theorem dX12_entry_61 : decode cX12_entry 61 = .ok (.if_icmp .ne 7, 3) := by decide +kernel
theorem dX12_entry_64 : decode cX12_entry 64 = .ok (.iconst 0, 1) := by decide +kernel
theorem dX12_entry_65 : decode cX12_entry 65 = .ok (.goto 13, 3) := by decide +kernel
theorem dX12_entry_68 : decode cX12_entry 68 = .ok (.aload_n 0, 1) := by decide +kernel
theorem dX12_entry_69 : decode cX12_entry 69 = .ok (.aload_n 0, 1) := by decide +kernel
theorem dX12_entry_70 : decode cX12_entry 70 = .ok (.getfield 42, 3) := by decide +kernel
theorem dX12_entry_73 : decode cX12_entry 73 = .ok (.iload_n 1, 1) := by decide +kernel
theorem dX12_entry_74 : decode cX12_entry 74 = .ok (.iaload, 1) := by decide +kernel
theorem dX12_entry_75 : decode cX12_entry 75 = .ok (.invokevirtual 231, 3) := by decide +kernel
theorem dX12_entry_78 : decode cX12_entry 78 = .ok (.ireturn, 1) := by decide +kernel
theorem eX12_entry_0 : am_lim call mX12_entry 0 [some (.ref a), l1, l2] (S) σ = am_lim call mX12_entry 1 [some (.ref a), l1, l2] (.ref a :: S) σ := r_aload_n dX12_entry_0 rfl
theorem eX12_entry_1 : am_lim call mX12_entry 1 [l0, l1, l2] (S) σ = am_lim call mX12_entry 2 [l0, l1, l2] (.int 0 :: S) σ := r_iconst dX12_entry_1 (by decide)
theorem eX12_entry_2 (h : g_o σ a 12) : am_lim call mX12_entry 2 [l0, l1, l2] (.int x :: .ref a :: S) σ = am_lim call mX12_entry 5 [l0, l1, l2] (S) (am_sI σ a 0 x) := r_putI dX12_entry_2 f_12_113 rfl rfl h
theorem eX12_entry_5 : am_lim call mX12_entry 5 [some (.ref a), l1, l2] (S) σ = am_lim call mX12_entry 6 [some (.ref a), l1, l2] (.ref a :: S) σ := r_aload_n dX12_entry_5 rfl
theorem eX12_entry_6 : am_lim call mX12_entry 6 [l0, some (.int x), l2] (S) σ = am_lim call mX12_entry 7 [l0, some (.int x), l2] (.int x :: S) σ := r_iload_n dX12_entry_6 rfl
theorem eX12_entry_7 (h : g_o σ b 12) : am_lim call mX12_entry 7 [l0, l1, l2] (.int v0 :: .ref b :: []) σ = am_k (call mX12_isEntry [.ref b, .int v0] σ) (fun r σ1 => am_lim call mX12_entry 10 [l0, l1, l2] (r.toList ++ []) σ1) := r_kV (S1 := [.int v0]) dX12_entry_7 mt_12_490 rfl h (Nat.le_of_ble_eq_true rfl)
theorem eX12_entry_10 : am_lim call mX12_entry 10 [l0, l1, l2] (.int x :: S) σ = if x = 0 then am_lim call mX12_entry 25 [l0, l1, l2] (S) σ else am_lim call mX12_entry 13 [l0, l1, l2] (S) σ := r_ifB 25 dX12_entry_10 (by decide) rfl
theorem eX12_entry_13 : am_lim call mX12_entry 13 [l0, l1, some (.int x)] (S) σ = am_lim call mX12_entry 14 [l0, l1, some (.int x)] (.int x :: S) σ := r_iload_n dX12_entry_13 rfl
theorem eX12_entry_14 : am_lim call mX12_entry 14 [l0, l1, l2] (.int x :: S) σ = am_lim call mX12_entry 15 [l0, l1, l2] (.long x.toInt64 :: S) σ := r_i2l dX12_entry_14
theorem eX12_entry_15 : am_lim call mX12_entry 15 [l0, l1, l2] (S) σ = am_lim call mX12_entry 16 [l0, l1, l2] (.long 0 :: S) σ := r_lconst dX12_entry_15 (by decide)
theorem eX12_entry_16 : am_lim call mX12_entry 16 [l0, l1, l2] (S) σ = am_lim call mX12_entry 19 [l0, l1, l2] (.long 2 :: S) σ := r_ldc2 dX12_entry_16 (by decide +kernel)
theorem eX12_entry_19 : am_lim call mX12_entry 19 [l0, l1, l2] (.long w2 :: .long w1 :: .long w0 :: []) σ = am_k (call mX12_isIn [.long w0, .long w1, .long w2] σ) (fun r σ1 => am_lim call mX12_entry 22 [l0, l1, l2] (r.toList ++ []) σ1) := r_kS (S1 := [.long w2, .long w1, .long w0]) dX12_entry_19 ⟨rfl, rfl, rfl⟩ mt_12_199 rfl (Nat.le_of_ble_eq_true rfl)
theorem eX12_entry_22 : am_lim call mX12_entry 22 [l0, l1, l2] (.int x :: S) σ = if x ≠ 0 then am_lim call mX12_entry 27 [l0, l1, l2] (S) σ else am_lim call mX12_entry 25 [l0, l1, l2] (S) σ := r_ifB 27 dX12_entry_22 (by decide) rfl
theorem eX12_entry_27 : am_lim call mX12_entry 27 [l0, l1, some (.int x)] (S) σ = am_lim call mX12_entry 28 [l0, l1, some (.int x)] (.int x :: S) σ := r_iload_n dX12_entry_27 rfl
theorem eX12_entry_28 : am_lim call mX12_entry 28 [l0, l1, l2] (.int x :: S) σ = if x ≠ 0 then am_lim call mX12_entry 40 [l0, l1, l2] (S) σ else am_lim call mX12_entry 31 [l0, l1, l2] (S) σ := r_ifB 40 dX12_entry_28 (by decide) rfl
theorem eX12_entry_31 : am_lim call mX12_entry 31 [some (.ref a), l1, l2] (S) σ = am_lim call mX12_entry 32 [some (.ref a), l1, l2] (.ref a :: S) σ := r_aload_n dX12_entry_31 rfl
theorem eX12_entry_32 (h : g_o σ a 12) : am_lim call mX12_entry 32 [l0, l1, l2] (.ref a :: S) σ = am_lim call mX12_entry 35 [l0, l1, l2] (va_rf (g_R σ a 18) :: S) σ := r_getR dX12_entry_32 f_12_36 rfl h
theorem eX12_entry_35 : am_lim call mX12_entry 35 [l0, some (.int x), l2] (S) σ = am_lim call mX12_entry 36 [l0, some (.int x), l2] (.int x :: S) σ := r_iload_n dX12_entry_35 rfl
theorem eX12_entry_36 {n : Nat} (h : g_a σ a n) (hi : am_in x n) : am_lim call mX12_entry 36 [l0, l1, l2] (.int x :: .ref a :: S) σ = am_lim call mX12_entry 37 [l0, l1, l2] (.int (g_I σ a x.toNatClampNeg) :: S) σ := r_iald dX12_entry_36 h hi
theorem eX12_entry_37 : am_lim call mX12_entry 37 [l0, l1, l2] (S) σ = am_lim call mX12_entry 78 [l0, l1, l2] (S) σ := r_goto 78 dX12_entry_37 (by decide)
theorem eX12_entry_78 : am_lim call mX12_entry 78 [l0, l1, l2] ([.int x]) σ = some (some (.int x), σ) := r_retI dX12_entry_78 rfl
theorem eX12_entry_40 : am_lim call mX12_entry 40 [l0, l1, some (.int x)] (S) σ = am_lim call mX12_entry 41 [l0, l1, some (.int x)] (.int x :: S) σ := r_iload_n dX12_entry_40 rfl
theorem eX12_entry_41 : am_lim call mX12_entry 41 [l0, l1, l2] (S) σ = am_lim call mX12_entry 42 [l0, l1, l2] (.int 1 :: S) σ := r_iconst dX12_entry_41 (by decide)
theorem eX12_entry_42 : am_lim call mX12_entry 42 [l0, l1, l2] (.int y :: .int x :: S) σ = if x ≠ y then am_lim call mX12_entry 54 [l0, l1, l2] (S) σ else am_lim call mX12_entry 45 [l0, l1, l2] (S) σ := r_icmpB 54 dX12_entry_42 (by decide) rfl
theorem eX12_entry_45 : am_lim call mX12_entry 45 [some (.ref a), l1, l2] (S) σ = am_lim call mX12_entry 46 [some (.ref a), l1, l2] (.ref a :: S) σ := r_aload_n dX12_entry_45 rfl
theorem eX12_entry_46 (h : g_o σ a 12) : am_lim call mX12_entry 46 [l0, l1, l2] (.ref a :: S) σ = am_lim call mX12_entry 49 [l0, l1, l2] (va_rf (g_R σ a 19) :: S) σ := r_getR dX12_entry_46 f_12_39 rfl h
theorem eX12_entry_49 : am_lim call mX12_entry 49 [l0, some (.int x), l2] (S) σ = am_lim call mX12_entry 50 [l0, some (.int x), l2] (.int x :: S) σ := r_iload_n dX12_entry_49 rfl
theorem eX12_entry_50 {n : Nat} (h : g_a σ a n) (hi : am_in x n) : am_lim call mX12_entry 50 [l0, l1, l2] (.int x :: .ref a :: S) σ = am_lim call mX12_entry 51 [l0, l1, l2] (.int (g_I σ a x.toNatClampNeg) :: S) σ := r_iald dX12_entry_50 h hi
theorem eX12_entry_51 : am_lim call mX12_entry 51 [l0, l1, l2] (S) σ = am_lim call mX12_entry 78 [l0, l1, l2] (S) σ := r_goto 78 dX12_entry_51 (by decide)
theorem eX12_entry_54 : am_lim call mX12_entry 54 [some (.ref a), l1, l2] (S) σ = am_lim call mX12_entry 55 [some (.ref a), l1, l2] (.ref a :: S) σ := r_aload_n dX12_entry_54 rfl
theorem eX12_entry_55 (h : g_o σ a 12) : am_lim call mX12_entry 55 [l0, l1, l2] (.ref a :: S) σ = am_lim call mX12_entry 58 [l0, l1, l2] (va_rf (g_R σ a 20) :: S) σ := r_getR dX12_entry_55 f_12_42 rfl h
theorem eX12_entry_58 : am_lim call mX12_entry 58 [l0, some (.int x), l2] (S) σ = am_lim call mX12_entry 59 [l0, some (.int x), l2] (.int x :: S) σ := r_iload_n dX12_entry_58 rfl
theorem eX12_entry_59 {n : Nat} (h : g_a σ a n) (hi : am_in x n) : am_lim call mX12_entry 59 [l0, l1, l2] (.int x :: .ref a :: S) σ = am_lim call mX12_entry 60 [l0, l1, l2] (.int (g_I σ a x.toNatClampNeg) :: S) σ := r_iald dX12_entry_59 h hi
theorem eX12_entry_60 : am_lim call mX12_entry 60 [l0, l1, l2] (S) σ = am_lim call mX12_entry 61 [l0, l1, l2] (.int (-1) :: S) σ := r_iconst dX12_entry_60 (by decide)
theorem eX12_entry_61 : am_lim call mX12_entry 61 [l0, l1, l2] (.int y :: .int x :: S) σ = if x ≠ y then am_lim call mX12_entry 68 [l0, l1, l2] (S) σ else am_lim call mX12_entry 64 [l0, l1, l2] (S) σ := r_icmpB 68 dX12_entry_61 (by decide) rfl
theorem eX12_entry_64 : am_lim call mX12_entry 64 [l0, l1, l2] (S) σ = am_lim call mX12_entry 65 [l0, l1, l2] (.int 0 :: S) σ := r_iconst dX12_entry_64 (by decide)
theorem eX12_entry_65 : am_lim call mX12_entry 65 [l0, l1, l2] (S) σ = am_lim call mX12_entry 78 [l0, l1, l2] (S) σ := r_goto 78 dX12_entry_65 (by decide)
theorem eX12_entry_68 : am_lim call mX12_entry 68 [some (.ref a), l1, l2] (S) σ = am_lim call mX12_entry 69 [some (.ref a), l1, l2] (.ref a :: S) σ := r_aload_n dX12_entry_68 rfl
theorem eX12_entry_69 : am_lim call mX12_entry 69 [some (.ref a), l1, l2] (S) σ = am_lim call mX12_entry 70 [some (.ref a), l1, l2] (.ref a :: S) σ := r_aload_n dX12_entry_69 rfl
theorem eX12_entry_70 (h : g_o σ a 12) : am_lim call mX12_entry 70 [l0, l1, l2] (.ref a :: S) σ = am_lim call mX12_entry 73 [l0, l1, l2] (va_rf (g_R σ a 20) :: S) σ := r_getR dX12_entry_70 f_12_42 rfl h
theorem eX12_entry_73 : am_lim call mX12_entry 73 [l0, some (.int x), l2] (S) σ = am_lim call mX12_entry 74 [l0, some (.int x), l2] (.int x :: S) σ := r_iload_n dX12_entry_73 rfl
theorem eX12_entry_74 {n : Nat} (h : g_a σ a n) (hi : am_in x n) : am_lim call mX12_entry 74 [l0, l1, l2] (.int x :: .ref a :: S) σ = am_lim call mX12_entry 75 [l0, l1, l2] (.int (g_I σ a x.toNatClampNeg) :: S) σ := r_iald dX12_entry_74 h hi
theorem eX12_entry_75 (h : g_o σ b 12) : am_lim call mX12_entry 75 [l0, l1, l2] (.int v0 :: .ref b :: []) σ = am_k (call mX12_signs [.ref b, .int v0] σ) (fun r σ1 => am_lim call mX12_entry 78 [l0, l1, l2] (r.toList ++ []) σ1) := r_kV (S1 := [.int v0]) dX12_entry_75 mt_12_231 rfl h (Nat.le_of_ble_eq_true rfl)
theorem eX12_entry_25 : am_lim call mX12_entry 25 [l0, l1, l2] (S) σ = am_lim call mX12_entry 26 [l0, l1, l2] (.int (-1) :: S) σ := r_iconst dX12_entry_25 (by decide)
theorem eX12_entry_26 : am_lim call mX12_entry 26 [l0, l1, l2] ([.int x]) σ = some (some (.int x), σ) := r_retI dX12_entry_26 rfl
theorem nX12_entry {d : Nat} : am_run (d + 1) mX12_entry [.ref b, .int v0, .int v1] σ = am_lim (am_run d) mX12_entry 0 [some (.ref b), some (.int v0), some (.int v1)] [] σ := am_run_S rfl rfl rfl rfl
theorem dX12_isEntry_0 : decode cX12_isEntry 0 = .ok (.aload_n 0, 1) := by decide +kernel
theorem dX12_isEntry_1 : decode cX12_isEntry 1 = .ok (.getfield 431, 3) := by decide +kernel
theorem dX12_isEntry_4 : decode cX12_isEntry 4 = .ok (.ifCond .eq 23, 3) := by decide +kernel
theorem dX12_isEntry_7 : decode cX12_isEntry 7 = .ok (.iload_n 1, 1) := by decide +kernel
theorem dX12_isEntry_8 : decode cX12_isEntry 8 = .ok (.i2l, 1) := by decide +kernel
theorem dX12_isEntry_9 : decode cX12_isEntry 9 = .ok (.lconst 0, 1) := by decide +kernel
theorem dX12_isEntry_10 : decode cX12_isEntry 10 = .ok (.aload_n 0, 1) := by decide +kernel
theorem dX12_isEntry_11 : decode cX12_isEntry 11 = .ok (.getfield 249, 3) := by decide +kernel
theorem dX12_isEntry_14 : decode cX12_isEntry 14 = .ok (.iconst 1, 1) := by decide +kernel
theorem dX12_isEntry_15 : decode cX12_isEntry 15 = .ok (.isub, 1) := by decide +kernel
theorem dX12_isEntry_16 : decode cX12_isEntry 16 = .ok (.i2l, 1) := by decide +kernel
theorem dX12_isEntry_17 : decode cX12_isEntry 17 = .ok (.invokestatic 199, 3) := by decide +kernel
theorem dX12_isEntry_20 : decode cX12_isEntry 20 = .ok (.ifCond .eq 7, 3) := by decide +kernel
theorem dX12_isEntry_23 : decode cX12_isEntry 23 = .ok (.iconst 1, 1) := by decide +kernel
theorem dX12_isEntry_24 : decode cX12_isEntry 24 = .ok (.goto 4, 3) := by decide +kernel
theorem dX12_isEntry_27 : decode cX12_isEntry 27 = .ok (.iconst 0, 1) := by decide +kernel
theorem dX12_isEntry_28 : decode cX12_isEntry 28 = .ok (.ireturn, 1) := by decide +kernel
theorem eX12_isEntry_0 : am_lim call mX12_isEntry 0 [some (.ref a), l1] (S) σ = am_lim call mX12_isEntry 1 [some (.ref a), l1] (.ref a :: S) σ := r_aload_n dX12_isEntry_0 rfl
theorem eX12_isEntry_1 (h : g_o σ a 12) : am_lim call mX12_isEntry 1 [l0, l1] (.ref a :: S) σ = am_lim call mX12_isEntry 4 [l0, l1] (.int (g_I σ a 36) :: S) σ := r_getI dX12_isEntry_1 f_12_431 rfl h
theorem eX12_isEntry_4 : am_lim call mX12_isEntry 4 [l0, l1] (.int x :: S) σ = if x = 0 then am_lim call mX12_isEntry 27 [l0, l1] (S) σ else am_lim call mX12_isEntry 7 [l0, l1] (S) σ := r_ifB 27 dX12_isEntry_4 (by decide) rfl
theorem eX12_isEntry_7 : am_lim call mX12_isEntry 7 [l0, some (.int x)] (S) σ = am_lim call mX12_isEntry 8 [l0, some (.int x)] (.int x :: S) σ := r_iload_n dX12_isEntry_7 rfl
theorem eX12_isEntry_8 : am_lim call mX12_isEntry 8 [l0, l1] (.int x :: S) σ = am_lim call mX12_isEntry 9 [l0, l1] (.long x.toInt64 :: S) σ := r_i2l dX12_isEntry_8
theorem eX12_isEntry_9 : am_lim call mX12_isEntry 9 [l0, l1] (S) σ = am_lim call mX12_isEntry 10 [l0, l1] (.long 0 :: S) σ := r_lconst dX12_isEntry_9 (by decide)
theorem eX12_isEntry_10 : am_lim call mX12_isEntry 10 [some (.ref a), l1] (S) σ = am_lim call mX12_isEntry 11 [some (.ref a), l1] (.ref a :: S) σ := r_aload_n dX12_isEntry_10 rfl
theorem eX12_isEntry_11 (h : g_o σ a 12) : am_lim call mX12_isEntry 11 [l0, l1] (.ref a :: S) σ = am_lim call mX12_isEntry 14 [l0, l1] (.int (g_I σ a 21) :: S) σ := r_getI dX12_isEntry_11 f_12_249 rfl h
theorem eX12_isEntry_14 : am_lim call mX12_isEntry 14 [l0, l1] (S) σ = am_lim call mX12_isEntry 15 [l0, l1] (.int 1 :: S) σ := r_iconst dX12_isEntry_14 (by decide)
theorem eX12_isEntry_15 : am_lim call mX12_isEntry 15 [l0, l1] (.int y :: .int x :: S) σ = am_lim call mX12_isEntry 16 [l0, l1] (.int (x - y) :: S) σ := r_isub dX12_isEntry_15
theorem eX12_isEntry_16 : am_lim call mX12_isEntry 16 [l0, l1] (.int x :: S) σ = am_lim call mX12_isEntry 17 [l0, l1] (.long x.toInt64 :: S) σ := r_i2l dX12_isEntry_16
theorem eX12_isEntry_17 : am_lim call mX12_isEntry 17 [l0, l1] (.long w2 :: .long w1 :: .long w0 :: []) σ = am_k (call mX12_isIn [.long w0, .long w1, .long w2] σ) (fun r σ1 => am_lim call mX12_isEntry 20 [l0, l1] (r.toList ++ []) σ1) := r_kS (S1 := [.long w2, .long w1, .long w0]) dX12_isEntry_17 ⟨rfl, rfl, rfl⟩ mt_12_199 rfl (Nat.le_of_ble_eq_true rfl)
theorem eX12_isEntry_20 : am_lim call mX12_isEntry 20 [l0, l1] (.int x :: S) σ = if x = 0 then am_lim call mX12_isEntry 27 [l0, l1] (S) σ else am_lim call mX12_isEntry 23 [l0, l1] (S) σ := r_ifB 27 dX12_isEntry_20 (by decide) rfl
theorem eX12_isEntry_23 : am_lim call mX12_isEntry 23 [l0, l1] (S) σ = am_lim call mX12_isEntry 24 [l0, l1] (.int 1 :: S) σ := r_iconst dX12_isEntry_23 (by decide)
theorem eX12_isEntry_24 : am_lim call mX12_isEntry 24 [l0, l1] (S) σ = am_lim call mX12_isEntry 28 [l0, l1] (S) σ := r_goto 28 dX12_isEntry_24 (by decide)
theorem eX12_isEntry_28 (hx : x = 0 ∨ x = 1) : am_lim call mX12_isEntry 28 [l0, l1] ([.int x]) σ = some (some (.int x), σ) := r_retZ dX12_isEntry_28 rfl hx
theorem eX12_isEntry_27 : am_lim call mX12_isEntry 27 [l0, l1] (S) σ = am_lim call mX12_isEntry 28 [l0, l1] (.int 0 :: S) σ := r_iconst dX12_isEntry_27 (by decide)
theorem nX12_isEntry {d : Nat} : am_run (d + 1) mX12_isEntry [.ref b, .int v0] σ = am_lim (am_run d) mX12_isEntry 0 [some (.ref b), some (.int v0)] [] σ := am_run_S rfl rfl rfl rfl
theorem dX11_entryType_0 : decode cX11_entryType 0 = .ok (.aload_n 0, 1) := by decide +kernel
theorem dX11_entryType_1 : decode cX11_entryType 1 = .ok (.getfield 29, 3) := by decide +kernel
theorem dX11_entryType_4 : decode cX11_entryType 4 = .ok (.getfield 137, 3) := by decide +kernel
theorem dX11_entryType_7 : decode cX11_entryType 7 = .ok (.astore_n 3, 1) := by decide +kernel
theorem dX11_entryType_8 : decode cX11_entryType 8 = .ok (.iload_n 1, 1) := by decide +kernel
theorem dX11_entryType_9 : decode cX11_entryType 9 = .ok (.ifCond .lt 21, 3) := by decide +kernel
theorem dX11_entryType_12 : decode cX11_entryType 12 = .ok (.iload_n 1, 1) := by decide +kernel
theorem dX11_entryType_13 : decode cX11_entryType 13 = .ok (.aload_n 3, 1) := by decide +kernel
theorem dX11_entryType_14 : decode cX11_entryType 14 = .ok (.getfield 149, 3) := by decide +kernel
theorem dX11_entryType_17 : decode cX11_entryType 17 = .ok (.if_icmp .ge 13, 3) := by decide +kernel
theorem dX11_entryType_20 : decode cX11_entryType 20 = .ok (.aload_n 3, 1) := by decide +kernel
theorem dX11_entryType_21 : decode cX11_entryType 21 = .ok (.getfield 191, 3) := by decide +kernel
theorem dX11_entryType_24 : decode cX11_entryType 24 = .ok (.iload_n 1, 1) := by decide +kernel
theorem dX11_entryType_25 : decode cX11_entryType 25 = .ok (.iaload, 1) := by decide +kernel
theorem dX11_entryType_26 : decode cX11_entryType 26 = .ok (.iconst (-1), 1) := by decide +kernel
theorem dX11_entryType_27 : decode cX11_entryType 27 = .ok (.if_icmp .ne 5, 3) := by decide +kernel
theorem dX11_entryType_30 : decode cX11_entryType 30 = .ok (.iconst (-1), 1) := by decide +kernel
theorem dX11_entryType_31 : decode cX11_entryType 31 = .ok (.ireturn, 1) := by decide +kernel
theorem dX11_entryType_32 : decode cX11_entryType 32 = .ok (.aload_n 3, 1) := by decide +kernel
theorem dX11_entryType_33 : decode cX11_entryType 33 = .ok (.getfield 191, 3) := by decide +kernel
theorem dX11_entryType_36 : decode cX11_entryType 36 = .ok (.iload_n 1, 1) := by decide +kernel
theorem dX11_entryType_37 : decode cX11_entryType 37 = .ok (.iaload, 1) := by decide +kernel
theorem dX11_entryType_38 : decode cX11_entryType 38 = .ok (.iconst 1, 1) := by decide +kernel
theorem dX11_entryType_39 : decode cX11_entryType 39 = .ok (.iadd, 1) := by decide +kernel
theorem dX11_entryType_40 : decode cX11_entryType 40 = .ok (.istore 4, 2) := by decide +kernel
theorem dX11_entryType_42 : decode cX11_entryType 42 = .ok (.aload_n 0, 1) := by decide +kernel
theorem dX11_entryType_43 : decode cX11_entryType 43 = .ok (.getfield 66, 3) := by decide +kernel
theorem dX11_entryType_46 : decode cX11_entryType 46 = .ok (.aload_n 3, 1) := by decide +kernel
theorem dX11_entryType_47 : decode cX11_entryType 47 = .ok (.getfield 194, 3) := by decide +kernel
theorem dX11_entryType_50 : decode cX11_entryType 50 = .ok (.getfield 165, 3) := by decide +kernel
theorem dX11_entryType_53 : decode cX11_entryType 53 = .ok (.iload 4, 2) := by decide +kernel
theorem dX11_entryType_55 : decode cX11_entryType 55 = .ok (.iload 4, 2) := by decide +kernel
theorem dX11_entryType_57 : decode cX11_entryType 57 = .ok (.aload_n 3, 1) := by decide +kernel
theorem dX11_entryType_58 : decode cX11_entryType 58 = .ok (.iload_n 1, 1) := by decide +kernel
theorem dX11_entryType_59 : decode cX11_entryType 59 = .ok (.invokevirtual 188, 3) := by decide +kernel
theorem dX11_entryType_62 : decode cX11_entryType 62 = .ok (.iadd, 1) := by decide +kernel
theorem dX11_entryType_63 : decode cX11_entryType 63 = .ok (.iload_n 2, 1) := by decide +kernel
theorem dX11_entryType_64 : decode cX11_entryType 64 = .ok (.invokevirtual 172, 3) := by decide +kernel
theorem dX11_entryType_67 : decode cX11_entryType 67 = .ok (.ireturn, 1) := by decide +kernel
theorem eX11_entryType_0 : am_lim call mX11_entryType 0 [some (.ref a), l1, l2, l3, l4] (S) σ = am_lim call mX11_entryType 1 [some (.ref a), l1, l2, l3, l4] (.ref a :: S) σ := r_aload_n dX11_entryType_0 rfl
theorem eX11_entryType_1 (h : g_o σ a 11) : am_lim call mX11_entryType 1 [l0, l1, l2, l3, l4] (.ref a :: S) σ = am_lim call mX11_entryType 4 [l0, l1, l2, l3, l4] (va_rf (g_R σ a 5) :: S) σ := r_getR dX11_entryType_1 f_11_29 rfl h
theorem eX11_entryType_4 (h : g_o σ a 2) : am_lim call mX11_entryType 4 [l0, l1, l2, l3, l4] (.ref a :: S) σ = am_lim call mX11_entryType 7 [l0, l1, l2, l3, l4] (va_rf (g_R σ a 0) :: S) σ := r_getR dX11_entryType_4 f_11_137 rfl h
theorem eX11_entryType_7 : am_lim call mX11_entryType 7 [l0, l1, l2, l3, l4] (.ref a :: S) σ = am_lim call mX11_entryType 8 [l0, l1, l2, some (.ref a), l4] (S) σ := r_astore_n dX11_entryType_7 rfl rfl rfl rfl
theorem eX11_entryType_8 : am_lim call mX11_entryType 8 [l0, some (.int x), l2, l3, l4] (S) σ = am_lim call mX11_entryType 9 [l0, some (.int x), l2, l3, l4] (.int x :: S) σ := r_iload_n dX11_entryType_8 rfl
theorem eX11_entryType_9 : am_lim call mX11_entryType 9 [l0, l1, l2, l3, l4] (.int x :: S) σ = if x < 0 then am_lim call mX11_entryType 30 [l0, l1, l2, l3, l4] (S) σ else am_lim call mX11_entryType 12 [l0, l1, l2, l3, l4] (S) σ := r_ifB 30 dX11_entryType_9 (by decide) rfl
theorem eX11_entryType_12 : am_lim call mX11_entryType 12 [l0, some (.int x), l2, l3, l4] (S) σ = am_lim call mX11_entryType 13 [l0, some (.int x), l2, l3, l4] (.int x :: S) σ := r_iload_n dX11_entryType_12 rfl
theorem eX11_entryType_13 : am_lim call mX11_entryType 13 [l0, l1, l2, some (.ref a), l4] (S) σ = am_lim call mX11_entryType 14 [l0, l1, l2, some (.ref a), l4] (.ref a :: S) σ := r_aload_n dX11_entryType_13 rfl
theorem eX11_entryType_14 (h : g_o σ a 0) : am_lim call mX11_entryType 14 [l0, l1, l2, l3, l4] (.ref a :: S) σ = am_lim call mX11_entryType 17 [l0, l1, l2, l3, l4] (.int (g_I σ a 4) :: S) σ := r_getI dX11_entryType_14 f_11_149 rfl h
theorem eX11_entryType_17 : am_lim call mX11_entryType 17 [l0, l1, l2, l3, l4] (.int y :: .int x :: S) σ = if y ≤ x then am_lim call mX11_entryType 30 [l0, l1, l2, l3, l4] (S) σ else am_lim call mX11_entryType 20 [l0, l1, l2, l3, l4] (S) σ := r_icmpB 30 dX11_entryType_17 (by decide) rfl
theorem eX11_entryType_20 : am_lim call mX11_entryType 20 [l0, l1, l2, some (.ref a), l4] (S) σ = am_lim call mX11_entryType 21 [l0, l1, l2, some (.ref a), l4] (.ref a :: S) σ := r_aload_n dX11_entryType_20 rfl
theorem eX11_entryType_21 (h : g_o σ a 0) : am_lim call mX11_entryType 21 [l0, l1, l2, l3, l4] (.ref a :: S) σ = am_lim call mX11_entryType 24 [l0, l1, l2, l3, l4] (va_rf (g_R σ a 2) :: S) σ := r_getR dX11_entryType_21 f_11_191 rfl h
theorem eX11_entryType_24 : am_lim call mX11_entryType 24 [l0, some (.int x), l2, l3, l4] (S) σ = am_lim call mX11_entryType 25 [l0, some (.int x), l2, l3, l4] (.int x :: S) σ := r_iload_n dX11_entryType_24 rfl
theorem eX11_entryType_25 {n : Nat} (h : g_a σ a n) (hi : am_in x n) : am_lim call mX11_entryType 25 [l0, l1, l2, l3, l4] (.int x :: .ref a :: S) σ = am_lim call mX11_entryType 26 [l0, l1, l2, l3, l4] (.int (g_I σ a x.toNatClampNeg) :: S) σ := r_iald dX11_entryType_25 h hi
theorem eX11_entryType_26 : am_lim call mX11_entryType 26 [l0, l1, l2, l3, l4] (S) σ = am_lim call mX11_entryType 27 [l0, l1, l2, l3, l4] (.int (-1) :: S) σ := r_iconst dX11_entryType_26 (by decide)
theorem eX11_entryType_27 : am_lim call mX11_entryType 27 [l0, l1, l2, l3, l4] (.int y :: .int x :: S) σ = if x ≠ y then am_lim call mX11_entryType 32 [l0, l1, l2, l3, l4] (S) σ else am_lim call mX11_entryType 30 [l0, l1, l2, l3, l4] (S) σ := r_icmpB 32 dX11_entryType_27 (by decide) rfl
theorem eX11_entryType_32 : am_lim call mX11_entryType 32 [l0, l1, l2, some (.ref a), l4] (S) σ = am_lim call mX11_entryType 33 [l0, l1, l2, some (.ref a), l4] (.ref a :: S) σ := r_aload_n dX11_entryType_32 rfl
theorem eX11_entryType_33 (h : g_o σ a 0) : am_lim call mX11_entryType 33 [l0, l1, l2, l3, l4] (.ref a :: S) σ = am_lim call mX11_entryType 36 [l0, l1, l2, l3, l4] (va_rf (g_R σ a 2) :: S) σ := r_getR dX11_entryType_33 f_11_191 rfl h
theorem eX11_entryType_36 : am_lim call mX11_entryType 36 [l0, some (.int x), l2, l3, l4] (S) σ = am_lim call mX11_entryType 37 [l0, some (.int x), l2, l3, l4] (.int x :: S) σ := r_iload_n dX11_entryType_36 rfl
theorem eX11_entryType_37 {n : Nat} (h : g_a σ a n) (hi : am_in x n) : am_lim call mX11_entryType 37 [l0, l1, l2, l3, l4] (.int x :: .ref a :: S) σ = am_lim call mX11_entryType 38 [l0, l1, l2, l3, l4] (.int (g_I σ a x.toNatClampNeg) :: S) σ := r_iald dX11_entryType_37 h hi
theorem eX11_entryType_38 : am_lim call mX11_entryType 38 [l0, l1, l2, l3, l4] (S) σ = am_lim call mX11_entryType 39 [l0, l1, l2, l3, l4] (.int 1 :: S) σ := r_iconst dX11_entryType_38 (by decide)
theorem eX11_entryType_39 : am_lim call mX11_entryType 39 [l0, l1, l2, l3, l4] (.int y :: .int x :: S) σ = am_lim call mX11_entryType 40 [l0, l1, l2, l3, l4] (.int (x + y) :: S) σ := r_iadd dX11_entryType_39
theorem eX11_entryType_40 : am_lim call mX11_entryType 40 [l0, l1, l2, l3, l4] (.int x :: S) σ = am_lim call mX11_entryType 42 [l0, l1, l2, l3, some (.int x)] (S) σ := r_istore dX11_entryType_40 rfl rfl rfl rfl
theorem eX11_entryType_42 : am_lim call mX11_entryType 42 [some (.ref a), l1, l2, l3, l4] (S) σ = am_lim call mX11_entryType 43 [some (.ref a), l1, l2, l3, l4] (.ref a :: S) σ := r_aload_n dX11_entryType_42 rfl
theorem eX11_entryType_43 (h : g_o σ a 11) : am_lim call mX11_entryType 43 [l0, l1, l2, l3, l4] (.ref a :: S) σ = am_lim call mX11_entryType 46 [l0, l1, l2, l3, l4] (va_rf (g_R σ a 4) :: S) σ := r_getR dX11_entryType_43 f_11_66 rfl h
theorem eX11_entryType_46 : am_lim call mX11_entryType 46 [l0, l1, l2, some (.ref a), l4] (S) σ = am_lim call mX11_entryType 47 [l0, l1, l2, some (.ref a), l4] (.ref a :: S) σ := r_aload_n dX11_entryType_46 rfl
theorem eX11_entryType_47 (h : g_o σ a 0) : am_lim call mX11_entryType 47 [l0, l1, l2, l3, l4] (.ref a :: S) σ = am_lim call mX11_entryType 50 [l0, l1, l2, l3, l4] (va_rf (g_R σ a 3) :: S) σ := r_getR dX11_entryType_47 f_11_194 rfl h
theorem eX11_entryType_50 (h : g_o σ a 4) : am_lim call mX11_entryType 50 [l0, l1, l2, l3, l4] (.ref a :: S) σ = am_lim call mX11_entryType 53 [l0, l1, l2, l3, l4] (va_rf (g_R σ a 0) :: S) σ := r_getR dX11_entryType_50 f_11_165 rfl h
theorem eX11_entryType_53 : am_lim call mX11_entryType 53 [l0, l1, l2, l3, some (.int x)] (S) σ = am_lim call mX11_entryType 55 [l0, l1, l2, l3, some (.int x)] (.int x :: S) σ := r_iload dX11_entryType_53 rfl
theorem eX11_entryType_55 : am_lim call mX11_entryType 55 [l0, l1, l2, l3, some (.int x)] (S) σ = am_lim call mX11_entryType 57 [l0, l1, l2, l3, some (.int x)] (.int x :: S) σ := r_iload dX11_entryType_55 rfl
theorem eX11_entryType_57 : am_lim call mX11_entryType 57 [l0, l1, l2, some (.ref a), l4] (S) σ = am_lim call mX11_entryType 58 [l0, l1, l2, some (.ref a), l4] (.ref a :: S) σ := r_aload_n dX11_entryType_57 rfl
theorem eX11_entryType_58 : am_lim call mX11_entryType 58 [l0, some (.int x), l2, l3, l4] (S) σ = am_lim call mX11_entryType 59 [l0, some (.int x), l2, l3, l4] (.int x :: S) σ := r_iload_n dX11_entryType_58 rfl
theorem eX11_entryType_59 (h : g_o σ b 0) : am_lim call mX11_entryType 59 [l0, l1, l2, l3, l4] (.int v0 :: .ref b :: .int s0 :: .int s1 :: .ref q2 :: .ref q3 :: []) σ = am_k (call mX0_lengthOf [.ref b, .int v0] σ) (fun r σ1 => am_lim call mX11_entryType 62 [l0, l1, l2, l3, l4] (r.toList ++ .int s0 :: .int s1 :: .ref q2 :: .ref q3 :: []) σ1) := r_kV (S1 := [.int v0]) dX11_entryType_59 mt_11_188 rfl h (Nat.le_of_ble_eq_true rfl)
theorem eX11_entryType_62 : am_lim call mX11_entryType 62 [l0, l1, l2, l3, l4] (.int y :: .int x :: S) σ = am_lim call mX11_entryType 63 [l0, l1, l2, l3, l4] (.int (x + y) :: S) σ := r_iadd dX11_entryType_62
theorem eX11_entryType_63 : am_lim call mX11_entryType 63 [l0, l1, some (.int x), l3, l4] (S) σ = am_lim call mX11_entryType 64 [l0, l1, some (.int x), l3, l4] (.int x :: S) σ := r_iload_n dX11_entryType_63 rfl
theorem eX11_entryType_64 (h : g_o σ b 6) : am_lim call mX11_entryType 64 [l0, l1, l2, l3, l4] (.int v3 :: .int v2 :: .int v1 :: .ref p0 :: .ref b :: []) σ = am_k (call mX6_told [.ref b, .ref p0, .int v1, .int v2, .int v3] σ) (fun r σ1 => am_lim call mX11_entryType 67 [l0, l1, l2, l3, l4] (r.toList ++ []) σ1) := r_kV (S1 := [.int v3, .int v2, .int v1, .ref p0]) dX11_entryType_64 mt_11_172 rfl h (Nat.le_of_ble_eq_true rfl)
theorem eX11_entryType_67 : am_lim call mX11_entryType 67 [l0, l1, l2, l3, l4] ([.int x]) σ = some (some (.int x), σ) := r_retI dX11_entryType_67 rfl
theorem eX11_entryType_30 : am_lim call mX11_entryType 30 [l0, l1, l2, l3, l4] (S) σ = am_lim call mX11_entryType 31 [l0, l1, l2, l3, l4] (.int (-1) :: S) σ := r_iconst dX11_entryType_30 (by decide)
theorem eX11_entryType_31 : am_lim call mX11_entryType 31 [l0, l1, l2, l3, l4] ([.int x]) σ = some (some (.int x), σ) := r_retI dX11_entryType_31 rfl
theorem nX11_entryType {d : Nat} : am_run (d + 1) mX11_entryType [.ref b, .int v0, .int v1] σ = am_lim (am_run d) mX11_entryType 0 [some (.ref b), some (.int v0), some (.int v1), none, none] [] σ := am_run_S rfl rfl rfl rfl
theorem dX12_entryType_0 : decode cX12_entryType 0 = .ok (.aload_n 0, 1) := by decide +kernel
theorem dX12_entryType_1 : decode cX12_entryType 1 = .ok (.iconst 0, 1) := by decide +kernel
theorem dX12_entryType_2 : decode cX12_entryType 2 = .ok (.putfield 113, 3) := by decide +kernel
theorem dX12_entryType_5 : decode cX12_entryType 5 = .ok (.aload_n 0, 1) := by decide +kernel
theorem dX12_entryType_6 : decode cX12_entryType 6 = .ok (.iload_n 1, 1) := by decide +kernel
theorem dX12_entryType_7 : decode cX12_entryType 7 = .ok (.invokevirtual 490, 3) := by decide +kernel
theorem dX12_entryType_10 : decode cX12_entryType 10 = .ok (.ifCond .eq 27, 3) := by decide +kernel
theorem dX12_entryType_13 : decode cX12_entryType 13 = .ok (.aload_n 0, 1) := by decide +kernel
theorem dX12_entryType_14 : decode cX12_entryType 14 = .ok (.getfield 42, 3) := by decide +kernel
theorem dX12_entryType_17 : decode cX12_entryType 17 = .ok (.iload_n 1, 1) := by decide +kernel
theorem dX12_entryType_18 : decode cX12_entryType 18 = .ok (.iaload, 1) := by decide +kernel
theorem dX12_entryType_19 : decode cX12_entryType 19 = .ok (.iconst (-1), 1) := by decide +kernel
theorem dX12_entryType_20 : decode cX12_entryType 20 = .ok (.if_icmp .eq 17, 3) := by decide +kernel
theorem dX12_entryType_23 : decode cX12_entryType 23 = .ok (.aload_n 0, 1) := by decide +kernel
theorem dX12_entryType_24 : decode cX12_entryType 24 = .ok (.aload_n 0, 1) := by decide +kernel
theorem dX12_entryType_25 : decode cX12_entryType 25 = .ok (.getfield 42, 3) := by decide +kernel
theorem dX12_entryType_28 : decode cX12_entryType 28 = .ok (.iload_n 1, 1) := by decide +kernel
theorem dX12_entryType_29 : decode cX12_entryType 29 = .ok (.iaload, 1) := by decide +kernel
theorem dX12_entryType_30 : decode cX12_entryType 30 = .ok (.iload_n 2, 1) := by decide +kernel
theorem dX12_entryType_31 : decode cX12_entryType 31 = .ok (.invokevirtual 482, 3) := by decide +kernel
theorem dX12_entryType_34 : decode cX12_entryType 34 = .ok (.goto 4, 3) := by decide +kernel
theorem dX12_entryType_37 : decode cX12_entryType 37 = .ok (.iconst (-1), 1) := by decide +kernel
theorem dX12_entryType_38 : decode cX12_entryType 38 = .ok (.ireturn, 1) := by decide +kernel
theorem eX12_entryType_0 : am_lim call mX12_entryType 0 [some (.ref a), l1, l2] (S) σ = am_lim call mX12_entryType 1 [some (.ref a), l1, l2] (.ref a :: S) σ := r_aload_n dX12_entryType_0 rfl
theorem eX12_entryType_1 : am_lim call mX12_entryType 1 [l0, l1, l2] (S) σ = am_lim call mX12_entryType 2 [l0, l1, l2] (.int 0 :: S) σ := r_iconst dX12_entryType_1 (by decide)
theorem eX12_entryType_2 (h : g_o σ a 12) : am_lim call mX12_entryType 2 [l0, l1, l2] (.int x :: .ref a :: S) σ = am_lim call mX12_entryType 5 [l0, l1, l2] (S) (am_sI σ a 0 x) := r_putI dX12_entryType_2 f_12_113 rfl rfl h
theorem eX12_entryType_5 : am_lim call mX12_entryType 5 [some (.ref a), l1, l2] (S) σ = am_lim call mX12_entryType 6 [some (.ref a), l1, l2] (.ref a :: S) σ := r_aload_n dX12_entryType_5 rfl
theorem eX12_entryType_6 : am_lim call mX12_entryType 6 [l0, some (.int x), l2] (S) σ = am_lim call mX12_entryType 7 [l0, some (.int x), l2] (.int x :: S) σ := r_iload_n dX12_entryType_6 rfl
theorem eX12_entryType_7 (h : g_o σ b 12) : am_lim call mX12_entryType 7 [l0, l1, l2] (.int v0 :: .ref b :: []) σ = am_k (call mX12_isEntry [.ref b, .int v0] σ) (fun r σ1 => am_lim call mX12_entryType 10 [l0, l1, l2] (r.toList ++ []) σ1) := r_kV (S1 := [.int v0]) dX12_entryType_7 mt_12_490 rfl h (Nat.le_of_ble_eq_true rfl)
theorem eX12_entryType_10 : am_lim call mX12_entryType 10 [l0, l1, l2] (.int x :: S) σ = if x = 0 then am_lim call mX12_entryType 37 [l0, l1, l2] (S) σ else am_lim call mX12_entryType 13 [l0, l1, l2] (S) σ := r_ifB 37 dX12_entryType_10 (by decide) rfl
theorem eX12_entryType_13 : am_lim call mX12_entryType 13 [some (.ref a), l1, l2] (S) σ = am_lim call mX12_entryType 14 [some (.ref a), l1, l2] (.ref a :: S) σ := r_aload_n dX12_entryType_13 rfl
theorem eX12_entryType_14 (h : g_o σ a 12) : am_lim call mX12_entryType 14 [l0, l1, l2] (.ref a :: S) σ = am_lim call mX12_entryType 17 [l0, l1, l2] (va_rf (g_R σ a 20) :: S) σ := r_getR dX12_entryType_14 f_12_42 rfl h
theorem eX12_entryType_17 : am_lim call mX12_entryType 17 [l0, some (.int x), l2] (S) σ = am_lim call mX12_entryType 18 [l0, some (.int x), l2] (.int x :: S) σ := r_iload_n dX12_entryType_17 rfl
theorem eX12_entryType_18 {n : Nat} (h : g_a σ a n) (hi : am_in x n) : am_lim call mX12_entryType 18 [l0, l1, l2] (.int x :: .ref a :: S) σ = am_lim call mX12_entryType 19 [l0, l1, l2] (.int (g_I σ a x.toNatClampNeg) :: S) σ := r_iald dX12_entryType_18 h hi
theorem eX12_entryType_19 : am_lim call mX12_entryType 19 [l0, l1, l2] (S) σ = am_lim call mX12_entryType 20 [l0, l1, l2] (.int (-1) :: S) σ := r_iconst dX12_entryType_19 (by decide)
theorem eX12_entryType_20 : am_lim call mX12_entryType 20 [l0, l1, l2] (.int y :: .int x :: S) σ = if x = y then am_lim call mX12_entryType 37 [l0, l1, l2] (S) σ else am_lim call mX12_entryType 23 [l0, l1, l2] (S) σ := r_icmpB 37 dX12_entryType_20 (by decide) rfl
theorem eX12_entryType_23 : am_lim call mX12_entryType 23 [some (.ref a), l1, l2] (S) σ = am_lim call mX12_entryType 24 [some (.ref a), l1, l2] (.ref a :: S) σ := r_aload_n dX12_entryType_23 rfl
theorem eX12_entryType_24 : am_lim call mX12_entryType 24 [some (.ref a), l1, l2] (S) σ = am_lim call mX12_entryType 25 [some (.ref a), l1, l2] (.ref a :: S) σ := r_aload_n dX12_entryType_24 rfl
theorem eX12_entryType_25 (h : g_o σ a 12) : am_lim call mX12_entryType 25 [l0, l1, l2] (.ref a :: S) σ = am_lim call mX12_entryType 28 [l0, l1, l2] (va_rf (g_R σ a 20) :: S) σ := r_getR dX12_entryType_25 f_12_42 rfl h
theorem eX12_entryType_28 : am_lim call mX12_entryType 28 [l0, some (.int x), l2] (S) σ = am_lim call mX12_entryType 29 [l0, some (.int x), l2] (.int x :: S) σ := r_iload_n dX12_entryType_28 rfl
theorem eX12_entryType_29 {n : Nat} (h : g_a σ a n) (hi : am_in x n) : am_lim call mX12_entryType 29 [l0, l1, l2] (.int x :: .ref a :: S) σ = am_lim call mX12_entryType 30 [l0, l1, l2] (.int (g_I σ a x.toNatClampNeg) :: S) σ := r_iald dX12_entryType_29 h hi
theorem eX12_entryType_30 : am_lim call mX12_entryType 30 [l0, l1, some (.int x)] (S) σ = am_lim call mX12_entryType 31 [l0, l1, some (.int x)] (.int x :: S) σ := r_iload_n dX12_entryType_30 rfl
theorem eX12_entryType_31 (h : g_o σ b 12) : am_lim call mX12_entryType 31 [l0, l1, l2] (.int v1 :: .int v0 :: .ref b :: []) σ = am_k (call mX12_tellsType [.ref b, .int v0, .int v1] σ) (fun r σ1 => am_lim call mX12_entryType 34 [l0, l1, l2] (r.toList ++ []) σ1) := r_kV (S1 := [.int v1, .int v0]) dX12_entryType_31 mt_12_482 rfl h (Nat.le_of_ble_eq_true rfl)
theorem eX12_entryType_34 : am_lim call mX12_entryType 34 [l0, l1, l2] (S) σ = am_lim call mX12_entryType 38 [l0, l1, l2] (S) σ := r_goto 38 dX12_entryType_34 (by decide)
theorem eX12_entryType_38 : am_lim call mX12_entryType 38 [l0, l1, l2] ([.int x]) σ = some (some (.int x), σ) := r_retI dX12_entryType_38 rfl
theorem eX12_entryType_37 : am_lim call mX12_entryType 37 [l0, l1, l2] (S) σ = am_lim call mX12_entryType 38 [l0, l1, l2] (.int (-1) :: S) σ := r_iconst dX12_entryType_37 (by decide)
theorem nX12_entryType {d : Nat} : am_run (d + 1) mX12_entryType [.ref b, .int v0, .int v1] σ = am_lim (am_run d) mX12_entryType 0 [some (.ref b), some (.int v0), some (.int v1)] [] σ := am_run_S rfl rfl rfl rfl
theorem dX11_infers_0 : decode cX11_infers 0 = .ok (.aload_n 0, 1) := by decide +kernel
theorem dX11_infers_1 : decode cX11_infers 1 = .ok (.getfield 41, 3) := by decide +kernel
theorem dX11_infers_4 : decode cX11_infers 4 = .ok (.aload_n 0, 1) := by decide +kernel
theorem dX11_infers_5 : decode cX11_infers 5 = .ok (.getfield 16, 3) := by decide +kernel
theorem dX11_infers_8 : decode cX11_infers 8 = .ok (.invokevirtual 93, 3) := by decide +kernel
theorem dX11_infers_11 : decode cX11_infers 11 = .ok (.iconst (-1), 1) := by decide +kernel
theorem dX11_infers_12 : decode cX11_infers 12 = .ok (.if_icmp .eq 5, 3) := by decide +kernel
theorem dX11_infers_15 : decode cX11_infers 15 = .ok (.iconst (-1), 1) := by decide +kernel
theorem dX11_infers_16 : decode cX11_infers 16 = .ok (.ireturn, 1) := by decide +kernel
theorem dX11_infers_17 : decode cX11_infers 17 = .ok (.aload_n 0, 1) := by decide +kernel
theorem dX11_infers_18 : decode cX11_infers 18 = .ok (.getfield 41, 3) := by decide +kernel
theorem dX11_infers_21 : decode cX11_infers 21 = .ok (.iconst 0, 1) := by decide +kernel
theorem dX11_infers_22 : decode cX11_infers 22 = .ok (.putfield 86, 3) := by decide +kernel
theorem dX11_infers_25 : decode cX11_infers 25 = .ok (.aload_n 0, 1) := by decide +kernel
theorem dX11_infers_26 : decode cX11_infers 26 = .ok (.getfield 16, 3) := by decide +kernel
theorem dX11_infers_29 : decode cX11_infers 29 = .ok (.astore_n 1, 1) := by decide +kernel
theorem dX11_infers_30 : decode cX11_infers 30 = .ok (.aload_n 0, 1) := by decide +kernel
theorem dX11_infers_31 : decode cX11_infers 31 = .ok (.aload_n 0, 1) := by decide +kernel
theorem dX11_infers_32 : decode cX11_infers 32 = .ok (.getfield 10, 3) := by decide +kernel
theorem dX11_infers_35 : decode cX11_infers 35 = .ok (.putfield 16, 3) := by decide +kernel
theorem dX11_infers_38 : decode cX11_infers 38 = .ok (.aload_n 0, 1) := by decide +kernel
theorem dX11_infers_39 : decode cX11_infers 39 = .ok (.aload_n 1, 1) := by decide +kernel
theorem dX11_infers_40 : decode cX11_infers 40 = .ok (.putfield 10, 3) := by decide +kernel
theorem dX11_infers_43 : decode cX11_infers 43 = .ok (.aload_n 0, 1) := by decide +kernel
theorem dX11_infers_44 : decode cX11_infers 44 = .ok (.iconst 1, 1) := by decide +kernel
theorem dX11_infers_45 : decode cX11_infers 45 = .ok (.putfield 70, 3) := by decide +kernel
theorem dX11_infers_48 : decode cX11_infers 48 = .ok (.aload_n 0, 1) := by decide +kernel
theorem dX11_infers_49 : decode cX11_infers 49 = .ok (.getfield 50, 3) := by decide +kernel
theorem dX11_infers_52 : decode cX11_infers 52 = .ok (.aload_n 0, 1) := by decide +kernel
theorem dX11_infers_53 : decode cX11_infers 53 = .ok (.getfield 29, 3) := by decide +kernel
theorem dX11_infers_56 : decode cX11_infers 56 = .ok (.aload_n 0, 1) := by decide +kernel
theorem dX11_infers_57 : decode cX11_infers 57 = .ok (.getfield 10, 3) := by decide +kernel
theorem dX11_infers_60 : decode cX11_infers 60 = .ok (.aload_n 0, 1) := by decide +kernel
theorem dX11_infers_61 : decode cX11_infers 61 = .ok (.getfield 22, 3) := by decide +kernel
theorem dX11_infers_64 : decode cX11_infers 64 = .ok (.sipush 300, 3) := by decide +kernel
theorem dX11_infers_67 : decode cX11_infers 67 = .ok (.invokevirtual 100, 3) := by decide +kernel
theorem dX11_infers_70 : decode cX11_infers 70 = .ok (.aload_n 0, 1) := by decide +kernel
theorem dX11_infers_71 : decode cX11_infers 71 = .ok (.getfield 50, 3) := by decide +kernel
theorem dX11_infers_74 : decode cX11_infers 74 = .ok (.invokevirtual 104, 3) := by decide +kernel
theorem dX11_infers_77 : decode cX11_infers 77 = .ok (.aload_n 0, 1) := by decide +kernel
theorem dX11_infers_78 : decode cX11_infers 78 = .ok (.invokevirtual 107, 3) := by decide +kernel
theorem dX11_infers_81 : decode cX11_infers 81 = .ok (.ireturn, 1) := by decide +kernel
theorem eX11_infers_0 : am_lim call mX11_infers 0 [some (.ref a), l1] (S) σ = am_lim call mX11_infers 1 [some (.ref a), l1] (.ref a :: S) σ := r_aload_n dX11_infers_0 rfl
theorem eX11_infers_1 (h : g_o σ a 11) : am_lim call mX11_infers 1 [l0, l1] (.ref a :: S) σ = am_lim call mX11_infers 4 [l0, l1] (va_rf (g_R σ a 0) :: S) σ := r_getR dX11_infers_1 f_11_41 rfl h
theorem eX11_infers_4 : am_lim call mX11_infers 4 [some (.ref a), l1] (S) σ = am_lim call mX11_infers 5 [some (.ref a), l1] (.ref a :: S) σ := r_aload_n dX11_infers_4 rfl
theorem eX11_infers_5 (h : g_o σ a 11) : am_lim call mX11_infers 5 [l0, l1] (.ref a :: S) σ = am_lim call mX11_infers 8 [l0, l1] (va_rf (g_R σ a 8) :: S) σ := r_getR dX11_infers_5 f_11_16 rfl h
theorem eX11_infers_8 (h : g_o σ b 3) : am_lim call mX11_infers 8 [l0, l1] (.ref p0 :: .ref b :: []) σ = am_k (call mX3_readTerm [.ref b, .ref p0] σ) (fun r σ1 => am_lim call mX11_infers 11 [l0, l1] (r.toList ++ []) σ1) := r_kV (S1 := [.ref p0]) dX11_infers_8 mt_11_93 rfl h (Nat.le_of_ble_eq_true rfl)
theorem eX11_infers_11 : am_lim call mX11_infers 11 [l0, l1] (S) σ = am_lim call mX11_infers 12 [l0, l1] (.int (-1) :: S) σ := r_iconst dX11_infers_11 (by decide)
theorem eX11_infers_12 : am_lim call mX11_infers 12 [l0, l1] (.int y :: .int x :: S) σ = if x = y then am_lim call mX11_infers 17 [l0, l1] (S) σ else am_lim call mX11_infers 15 [l0, l1] (S) σ := r_icmpB 17 dX11_infers_12 (by decide) rfl
theorem eX11_infers_15 : am_lim call mX11_infers 15 [l0, l1] (S) σ = am_lim call mX11_infers 16 [l0, l1] (.int (-1) :: S) σ := r_iconst dX11_infers_15 (by decide)
theorem eX11_infers_16 : am_lim call mX11_infers 16 [l0, l1] ([.int x]) σ = some (some (.int x), σ) := r_retI dX11_infers_16 rfl
theorem eX11_infers_17 : am_lim call mX11_infers 17 [some (.ref a), l1] (S) σ = am_lim call mX11_infers 18 [some (.ref a), l1] (.ref a :: S) σ := r_aload_n dX11_infers_17 rfl
theorem eX11_infers_18 (h : g_o σ a 11) : am_lim call mX11_infers 18 [l0, l1] (.ref a :: S) σ = am_lim call mX11_infers 21 [l0, l1] (va_rf (g_R σ a 0) :: S) σ := r_getR dX11_infers_18 f_11_41 rfl h
theorem eX11_infers_21 : am_lim call mX11_infers 21 [l0, l1] (S) σ = am_lim call mX11_infers 22 [l0, l1] (.int 0 :: S) σ := r_iconst dX11_infers_21 (by decide)
theorem eX11_infers_22 (h : g_o σ a 3) : am_lim call mX11_infers 22 [l0, l1] (.int x :: .ref a :: S) σ = am_lim call mX11_infers 25 [l0, l1] (S) (am_sI σ a 0 x) := r_putI dX11_infers_22 f_11_86 rfl rfl h
theorem eX11_infers_25 : am_lim call mX11_infers 25 [some (.ref a), l1] (S) σ = am_lim call mX11_infers 26 [some (.ref a), l1] (.ref a :: S) σ := r_aload_n dX11_infers_25 rfl
theorem eX11_infers_26 (h : g_o σ a 11) : am_lim call mX11_infers 26 [l0, l1] (.ref a :: S) σ = am_lim call mX11_infers 29 [l0, l1] (va_rf (g_R σ a 8) :: S) σ := r_getR dX11_infers_26 f_11_16 rfl h
theorem eX11_infers_29 : am_lim call mX11_infers 29 [l0, l1] (.ref a :: S) σ = am_lim call mX11_infers 30 [l0, some (.ref a)] (S) σ := r_astore_n dX11_infers_29 rfl rfl rfl rfl
theorem eX11_infers_30 : am_lim call mX11_infers 30 [some (.ref a), l1] (S) σ = am_lim call mX11_infers 31 [some (.ref a), l1] (.ref a :: S) σ := r_aload_n dX11_infers_30 rfl
theorem eX11_infers_31 : am_lim call mX11_infers 31 [some (.ref a), l1] (S) σ = am_lim call mX11_infers 32 [some (.ref a), l1] (.ref a :: S) σ := r_aload_n dX11_infers_31 rfl
theorem eX11_infers_32 (h : g_o σ a 11) : am_lim call mX11_infers 32 [l0, l1] (.ref a :: S) σ = am_lim call mX11_infers 35 [l0, l1] (va_rf (g_R σ a 7) :: S) σ := r_getR dX11_infers_32 f_11_10 rfl h
theorem eX11_infers_35 (h : g_o σ a 11) : am_lim call mX11_infers 35 [l0, l1] (.ref b :: .ref a :: S) σ = am_lim call mX11_infers 38 [l0, l1] (S) (am_sR σ a 8 (some b)) := r_putR dX11_infers_35 f_11_16 rfl rfl h
theorem eX11_infers_35n (h : g_o σ a 11) : am_lim call mX11_infers 35 [l0, l1] (.null :: .ref a :: S) σ = am_lim call mX11_infers 38 [l0, l1] (S) (am_sR σ a 8 none) := r_putN dX11_infers_35 f_11_16 rfl rfl h
theorem eX11_infers_38 : am_lim call mX11_infers 38 [some (.ref a), l1] (S) σ = am_lim call mX11_infers 39 [some (.ref a), l1] (.ref a :: S) σ := r_aload_n dX11_infers_38 rfl
theorem eX11_infers_39 : am_lim call mX11_infers 39 [l0, some (.ref a)] (S) σ = am_lim call mX11_infers 40 [l0, some (.ref a)] (.ref a :: S) σ := r_aload_n dX11_infers_39 rfl
theorem eX11_infers_40 (h : g_o σ a 11) : am_lim call mX11_infers 40 [l0, l1] (.ref b :: .ref a :: S) σ = am_lim call mX11_infers 43 [l0, l1] (S) (am_sR σ a 7 (some b)) := r_putR dX11_infers_40 f_11_10 rfl rfl h
theorem eX11_infers_40n (h : g_o σ a 11) : am_lim call mX11_infers 40 [l0, l1] (.null :: .ref a :: S) σ = am_lim call mX11_infers 43 [l0, l1] (S) (am_sR σ a 7 none) := r_putN dX11_infers_40 f_11_10 rfl rfl h
theorem eX11_infers_43 : am_lim call mX11_infers 43 [some (.ref a), l1] (S) σ = am_lim call mX11_infers 44 [some (.ref a), l1] (.ref a :: S) σ := r_aload_n dX11_infers_43 rfl
theorem eX11_infers_44 : am_lim call mX11_infers 44 [l0, l1] (S) σ = am_lim call mX11_infers 45 [l0, l1] (.int 1 :: S) σ := r_iconst dX11_infers_44 (by decide)
theorem eX11_infers_45 (h : g_o σ a 11) (hx : x = 0 ∨ x = 1) : am_lim call mX11_infers 45 [l0, l1] (.int x :: .ref a :: S) σ = am_lim call mX11_infers 48 [l0, l1] (S) (am_sI σ a 9 x) := r_putZ dX11_infers_45 f_11_70 rfl rfl h hx
theorem eX11_infers_48 : am_lim call mX11_infers 48 [some (.ref a), l1] (S) σ = am_lim call mX11_infers 49 [some (.ref a), l1] (.ref a :: S) σ := r_aload_n dX11_infers_48 rfl
theorem eX11_infers_49 (h : g_o σ a 11) : am_lim call mX11_infers 49 [l0, l1] (.ref a :: S) σ = am_lim call mX11_infers 52 [l0, l1] (va_rf (g_R σ a 2) :: S) σ := r_getR dX11_infers_49 f_11_50 rfl h
theorem eX11_infers_52 : am_lim call mX11_infers 52 [some (.ref a), l1] (S) σ = am_lim call mX11_infers 53 [some (.ref a), l1] (.ref a :: S) σ := r_aload_n dX11_infers_52 rfl
theorem eX11_infers_53 (h : g_o σ a 11) : am_lim call mX11_infers 53 [l0, l1] (.ref a :: S) σ = am_lim call mX11_infers 56 [l0, l1] (va_rf (g_R σ a 5) :: S) σ := r_getR dX11_infers_53 f_11_29 rfl h
theorem eX11_infers_56 : am_lim call mX11_infers 56 [some (.ref a), l1] (S) σ = am_lim call mX11_infers 57 [some (.ref a), l1] (.ref a :: S) σ := r_aload_n dX11_infers_56 rfl
theorem eX11_infers_57 (h : g_o σ a 11) : am_lim call mX11_infers 57 [l0, l1] (.ref a :: S) σ = am_lim call mX11_infers 60 [l0, l1] (va_rf (g_R σ a 7) :: S) σ := r_getR dX11_infers_57 f_11_10 rfl h
theorem eX11_infers_60 : am_lim call mX11_infers 60 [some (.ref a), l1] (S) σ = am_lim call mX11_infers 61 [some (.ref a), l1] (.ref a :: S) σ := r_aload_n dX11_infers_60 rfl
theorem eX11_infers_61 (h : g_o σ a 11) : am_lim call mX11_infers 61 [l0, l1] (.ref a :: S) σ = am_lim call mX11_infers 64 [l0, l1] (va_rf (g_R σ a 1) :: S) σ := r_getR dX11_infers_61 f_11_22 rfl h
theorem eX11_infers_64 : am_lim call mX11_infers 64 [l0, l1] (S) σ = am_lim call mX11_infers 67 [l0, l1] (.int 300 :: S) σ := r_sipush dX11_infers_64 (by decide)
theorem eX11_infers_67 (h : g_o σ b 1) : am_lim call mX11_infers 67 [l0, l1] (.int v3 :: .ref p2 :: .ref p1 :: .ref p0 :: .ref b :: []) σ = am_k (call mX1_startTerm [.ref b, .ref p0, .ref p1, .ref p2, .int v3] σ) (fun r σ1 => am_lim call mX11_infers 70 [l0, l1] (r.toList ++ []) σ1) := r_kV (S1 := [.int v3, .ref p2, .ref p1, .ref p0]) dX11_infers_67 mt_11_100 rfl h (Nat.le_of_ble_eq_true rfl)
theorem eX11_infers_70 : am_lim call mX11_infers 70 [some (.ref a), l1] (S) σ = am_lim call mX11_infers 71 [some (.ref a), l1] (.ref a :: S) σ := r_aload_n dX11_infers_70 rfl
theorem eX11_infers_71 (h : g_o σ a 11) : am_lim call mX11_infers 71 [l0, l1] (.ref a :: S) σ = am_lim call mX11_infers 74 [l0, l1] (va_rf (g_R σ a 2) :: S) σ := r_getR dX11_infers_71 f_11_50 rfl h
theorem eX11_infers_74 (h : g_o σ b 1) : am_lim call mX11_infers 74 [l0, l1] (.ref b :: []) σ = am_k (call mX1_run [.ref b] σ) (fun r σ1 => am_lim call mX11_infers 77 [l0, l1] (r.toList ++ []) σ1) := r_kV (S1 := []) dX11_infers_74 mt_11_104 rfl h (Nat.le_of_ble_eq_true rfl)
theorem eX11_infers_77 : am_lim call mX11_infers 77 [some (.ref a), l1] (S) σ = am_lim call mX11_infers 78 [some (.ref a), l1] (.ref a :: S) σ := r_aload_n dX11_infers_77 rfl
theorem eX11_infers_78 (h : g_o σ b 11) : am_lim call mX11_infers 78 [l0, l1] (.ref b :: []) σ = am_k (call mX11_counted [.ref b] σ) (fun r σ1 => am_lim call mX11_infers 81 [l0, l1] (r.toList ++ []) σ1) := r_kV (S1 := []) dX11_infers_78 mt_11_107 rfl h (Nat.le_of_ble_eq_true rfl)
theorem eX11_infers_81 : am_lim call mX11_infers 81 [l0, l1] ([.int x]) σ = some (some (.int x), σ) := r_retI dX11_infers_81 rfl
theorem nX11_infers {d : Nat} : am_run (d + 1) mX11_infers [.ref b] σ = am_lim (am_run d) mX11_infers 0 [some (.ref b), none] [] σ := am_run_S rfl rfl rfl rfl
theorem dX3_readTerm_0 : decode cX3_readTerm 0 = .ok (.aload_n 0, 1) := by decide +kernel
theorem dX3_readTerm_1 : decode cX3_readTerm 1 = .ok (.iconst 0, 1) := by decide +kernel
theorem dX3_readTerm_2 : decode cX3_readTerm 2 = .ok (.putfield 34, 3) := by decide +kernel
theorem dX3_readTerm_5 : decode cX3_readTerm 5 = .ok (.aload_n 0, 1) := by decide +kernel
theorem dX3_readTerm_6 : decode cX3_readTerm 6 = .ok (.iconst (-1), 1) := by decide +kernel
theorem dX3_readTerm_7 : decode cX3_readTerm 7 = .ok (.putfield 37, 3) := by decide +kernel
theorem dX3_readTerm_10 : decode cX3_readTerm 10 = .ok (.aload_n 1, 1) := by decide +kernel
theorem dX3_readTerm_11 : decode cX3_readTerm 11 = .ok (.invokevirtual 50, 3) := by decide +kernel
theorem dX3_readTerm_14 : decode cX3_readTerm 14 = .ok (.aload_n 0, 1) := by decide +kernel
theorem dX3_readTerm_15 : decode cX3_readTerm 15 = .ok (.aload_n 1, 1) := by decide +kernel
theorem dX3_readTerm_16 : decode cX3_readTerm 16 = .ok (.putfield 43, 3) := by decide +kernel
theorem dX3_readTerm_19 : decode cX3_readTerm 19 = .ok (.aload_n 0, 1) := by decide +kernel
theorem dX3_readTerm_20 : decode cX3_readTerm 20 = .ok (.aload_n 1, 1) := by decide +kernel
theorem dX3_readTerm_21 : decode cX3_readTerm 21 = .ok (.getfield 55, 3) := by decide +kernel
theorem dX3_readTerm_24 : decode cX3_readTerm 24 = .ok (.putfield 47, 3) := by decide +kernel
theorem dX3_readTerm_27 : decode cX3_readTerm 27 = .ok (.aload_n 0, 1) := by decide +kernel
theorem dX3_readTerm_28 : decode cX3_readTerm 28 = .ok (.iconst 1, 1) := by decide +kernel
theorem dX3_readTerm_29 : decode cX3_readTerm 29 = .ok (.invokevirtual 58, 3) := by decide +kernel
theorem dX3_readTerm_32 : decode cX3_readTerm 32 = .ok (.aload_n 0, 1) := by decide +kernel
theorem dX3_readTerm_33 : decode cX3_readTerm 33 = .ok (.invokevirtual 61, 3) := by decide +kernel
theorem dX3_readTerm_36 : decode cX3_readTerm 36 = .ok (.aload_n 0, 1) := by decide +kernel
theorem dX3_readTerm_37 : decode cX3_readTerm 37 = .ok (.getfield 37, 3) := by decide +kernel
theorem dX3_readTerm_40 : decode cX3_readTerm 40 = .ok (.ireturn, 1) := by decide +kernel
theorem eX3_readTerm_0 : am_lim call mX3_readTerm 0 [some (.ref a), l1] (S) σ = am_lim call mX3_readTerm 1 [some (.ref a), l1] (.ref a :: S) σ := r_aload_n dX3_readTerm_0 rfl
theorem eX3_readTerm_1 : am_lim call mX3_readTerm 1 [l0, l1] (S) σ = am_lim call mX3_readTerm 2 [l0, l1] (.int 0 :: S) σ := r_iconst dX3_readTerm_1 (by decide)
theorem eX3_readTerm_2 (h : g_o σ a 3) : am_lim call mX3_readTerm 2 [l0, l1] (.int x :: .ref a :: S) σ = am_lim call mX3_readTerm 5 [l0, l1] (S) (am_sI σ a 5 x) := r_putI dX3_readTerm_2 f_3_34 rfl rfl h
theorem eX3_readTerm_5 : am_lim call mX3_readTerm 5 [some (.ref a), l1] (S) σ = am_lim call mX3_readTerm 6 [some (.ref a), l1] (.ref a :: S) σ := r_aload_n dX3_readTerm_5 rfl
theorem eX3_readTerm_6 : am_lim call mX3_readTerm 6 [l0, l1] (S) σ = am_lim call mX3_readTerm 7 [l0, l1] (.int (-1) :: S) σ := r_iconst dX3_readTerm_6 (by decide)
theorem eX3_readTerm_7 (h : g_o σ a 3) : am_lim call mX3_readTerm 7 [l0, l1] (.int x :: .ref a :: S) σ = am_lim call mX3_readTerm 10 [l0, l1] (S) (am_sI σ a 6 x) := r_putI dX3_readTerm_7 f_3_37 rfl rfl h
theorem eX3_readTerm_10 : am_lim call mX3_readTerm 10 [l0, some (.ref a)] (S) σ = am_lim call mX3_readTerm 11 [l0, some (.ref a)] (.ref a :: S) σ := r_aload_n dX3_readTerm_10 rfl
theorem eX3_readTerm_11 (h : g_o σ b 7) : am_lim call mX3_readTerm 11 [l0, l1] (.ref b :: []) σ = am_k (call mX7_clear [.ref b] σ) (fun r σ1 => am_lim call mX3_readTerm 14 [l0, l1] (r.toList ++ []) σ1) := r_kV (S1 := []) dX3_readTerm_11 mt_3_50 rfl h (Nat.le_of_ble_eq_true rfl)
theorem eX3_readTerm_14 : am_lim call mX3_readTerm 14 [some (.ref a), l1] (S) σ = am_lim call mX3_readTerm 15 [some (.ref a), l1] (.ref a :: S) σ := r_aload_n dX3_readTerm_14 rfl
theorem eX3_readTerm_15 : am_lim call mX3_readTerm 15 [l0, some (.ref a)] (S) σ = am_lim call mX3_readTerm 16 [l0, some (.ref a)] (.ref a :: S) σ := r_aload_n dX3_readTerm_15 rfl
theorem eX3_readTerm_16 (h : g_o σ a 3) : am_lim call mX3_readTerm 16 [l0, l1] (.ref b :: .ref a :: S) σ = am_lim call mX3_readTerm 19 [l0, l1] (S) (am_sR σ a 8 (some b)) := r_putR dX3_readTerm_16 f_3_43 rfl rfl h
theorem eX3_readTerm_16n (h : g_o σ a 3) : am_lim call mX3_readTerm 16 [l0, l1] (.null :: .ref a :: S) σ = am_lim call mX3_readTerm 19 [l0, l1] (S) (am_sR σ a 8 none) := r_putN dX3_readTerm_16 f_3_43 rfl rfl h
theorem eX3_readTerm_19 : am_lim call mX3_readTerm 19 [some (.ref a), l1] (S) σ = am_lim call mX3_readTerm 20 [some (.ref a), l1] (.ref a :: S) σ := r_aload_n dX3_readTerm_19 rfl
theorem eX3_readTerm_20 : am_lim call mX3_readTerm 20 [l0, some (.ref a)] (S) σ = am_lim call mX3_readTerm 21 [l0, some (.ref a)] (.ref a :: S) σ := r_aload_n dX3_readTerm_20 rfl
theorem eX3_readTerm_21 (h : g_o σ a 7) : am_lim call mX3_readTerm 21 [l0, l1] (.ref a :: S) σ = am_lim call mX3_readTerm 24 [l0, l1] (va_rf (g_R σ a 1) :: S) σ := r_getR dX3_readTerm_21 f_3_55 rfl h
theorem eX3_readTerm_24 (h : g_o σ a 3) : am_lim call mX3_readTerm 24 [l0, l1] (.ref b :: .ref a :: S) σ = am_lim call mX3_readTerm 27 [l0, l1] (S) (am_sR σ a 9 (some b)) := r_putR dX3_readTerm_24 f_3_47 rfl rfl h
theorem eX3_readTerm_24n (h : g_o σ a 3) : am_lim call mX3_readTerm 24 [l0, l1] (.null :: .ref a :: S) σ = am_lim call mX3_readTerm 27 [l0, l1] (S) (am_sR σ a 9 none) := r_putN dX3_readTerm_24 f_3_47 rfl rfl h
theorem eX3_readTerm_27 : am_lim call mX3_readTerm 27 [some (.ref a), l1] (S) σ = am_lim call mX3_readTerm 28 [some (.ref a), l1] (.ref a :: S) σ := r_aload_n dX3_readTerm_27 rfl
theorem eX3_readTerm_28 : am_lim call mX3_readTerm 28 [l0, l1] (S) σ = am_lim call mX3_readTerm 29 [l0, l1] (.int 1 :: S) σ := r_iconst dX3_readTerm_28 (by decide)
theorem eX3_readTerm_29 (h : g_o σ b 3) : am_lim call mX3_readTerm 29 [l0, l1] (.int v0 :: .ref b :: []) σ = am_k (call mX3_readPart [.ref b, .int v0] σ) (fun r σ1 => am_lim call mX3_readTerm 32 [l0, l1] (r.toList ++ []) σ1) := r_kV (S1 := [.int v0]) dX3_readTerm_29 mt_3_58 rfl h (Nat.le_of_ble_eq_true rfl)
theorem eX3_readTerm_32 : am_lim call mX3_readTerm 32 [some (.ref a), l1] (S) σ = am_lim call mX3_readTerm 33 [some (.ref a), l1] (.ref a :: S) σ := r_aload_n dX3_readTerm_32 rfl
theorem eX3_readTerm_33 (h : g_o σ b 3) : am_lim call mX3_readTerm 33 [l0, l1] (.ref b :: []) σ = am_k (call mX3_readEnd [.ref b] σ) (fun r σ1 => am_lim call mX3_readTerm 36 [l0, l1] (r.toList ++ []) σ1) := r_kV (S1 := []) dX3_readTerm_33 mt_3_61 rfl h (Nat.le_of_ble_eq_true rfl)
theorem eX3_readTerm_36 : am_lim call mX3_readTerm 36 [some (.ref a), l1] (S) σ = am_lim call mX3_readTerm 37 [some (.ref a), l1] (.ref a :: S) σ := r_aload_n dX3_readTerm_36 rfl
theorem eX3_readTerm_37 (h : g_o σ a 3) : am_lim call mX3_readTerm 37 [l0, l1] (.ref a :: S) σ = am_lim call mX3_readTerm 40 [l0, l1] (.int (g_I σ a 6) :: S) σ := r_getI dX3_readTerm_37 f_3_37 rfl h
theorem eX3_readTerm_40 : am_lim call mX3_readTerm 40 [l0, l1] ([.int x]) σ = some (some (.int x), σ) := r_retI dX3_readTerm_40 rfl
theorem nX3_readTerm {d : Nat} : am_run (d + 1) mX3_readTerm [.ref b, .ref p0] σ = am_lim (am_run d) mX3_readTerm 0 [some (.ref b), some (.ref p0)] [] σ := am_run_S rfl rfl rfl rfl
theorem dX3_readPart_0 : decode cX3_readPart 0 = .ok (.aload_n 0, 1) := by decide +kernel
theorem dX3_readPart_1 : decode cX3_readPart 1 = .ok (.invokevirtual 68, 3) := by decide +kernel
theorem dX3_readPart_4 : decode cX3_readPart 4 = .ok (.istore_n 2, 1) := by decide +kernel
theorem dX3_readPart_5 : decode cX3_readPart 5 = .ok (.iload_n 2, 1) := by decide +kernel
theorem dX3_readPart_6 : decode cX3_readPart 6 = .ok (.invokestatic 82, 3) := by decide +kernel
theorem dX3_readPart_9 : decode cX3_readPart 9 = .ok (.istore_n 3, 1) := by decide +kernel
theorem dX3_readPart_10 : decode cX3_readPart 10 = .ok (.iload_n 3, 1) := by decide +kernel
theorem dX3_readPart_11 : decode cX3_readPart 11 = .ok (.iconst (-1), 1) := by decide +kernel
theorem dX3_readPart_12 : decode cX3_readPart 12 = .ok (.if_icmp .eq 9, 3) := by decide +kernel
theorem dX3_readPart_15 : decode cX3_readPart 15 = .ok (.iload_n 1, 1) := by decide +kernel
theorem dX3_readPart_16 : decode cX3_readPart 16 = .ok (.bipush 20, 2) := by decide +kernel
theorem dX3_readPart_18 : decode cX3_readPart 18 = .ok (.if_icmp .le 8, 3) := by decide +kernel
theorem dX3_readPart_21 : decode cX3_readPart 21 = .ok (.aload_n 0, 1) := by decide +kernel
theorem dX3_readPart_22 : decode cX3_readPart 22 = .ok (.invokevirtual 72, 3) := by decide +kernel
theorem dX3_readPart_25 : decode cX3_readPart 25 = .ok (.return_, 1) := by decide +kernel
theorem dX3_readPart_26 : decode cX3_readPart 26 = .ok (.aload_n 0, 1) := by decide +kernel
theorem dX3_readPart_27 : decode cX3_readPart 27 = .ok (.getfield 43, 3) := by decide +kernel
theorem dX3_readPart_30 : decode cX3_readPart 30 = .ok (.iload_n 3, 1) := by decide +kernel
theorem dX3_readPart_31 : decode cX3_readPart 31 = .ok (.aload_n 0, 1) := by decide +kernel
theorem dX3_readPart_32 : decode cX3_readPart 32 = .ok (.getfield 34, 3) := by decide +kernel
theorem dX3_readPart_35 : decode cX3_readPart 35 = .ok (.invokevirtual 86, 3) := by decide +kernel
theorem dX3_readPart_38 : decode cX3_readPart 38 = .ok (.istore 4, 2) := by decide +kernel
theorem dX3_readPart_40 : decode cX3_readPart 40 = .ok (.aload_n 0, 1) := by decide +kernel
theorem dX3_readPart_41 : decode cX3_readPart 41 = .ok (.iload 4, 2) := by decide +kernel
theorem dX3_readPart_43 : decode cX3_readPart 43 = .ok (.iload_n 3, 1) := by decide +kernel
theorem dX3_readPart_44 : decode cX3_readPart 44 = .ok (.iload_n 2, 1) := by decide +kernel
theorem dX3_readPart_45 : decode cX3_readPart 45 = .ok (.invokevirtual 90, 3) := by decide +kernel
theorem dX3_readPart_48 : decode cX3_readPart 48 = .ok (.iconst 0, 1) := by decide +kernel
theorem dX3_readPart_49 : decode cX3_readPart 49 = .ok (.istore 5, 2) := by decide +kernel
theorem dX3_readPart_51 : decode cX3_readPart 51 = .ok (.iload 5, 2) := by decide +kernel
theorem dX3_readPart_53 : decode cX3_readPart 53 = .ok (.iload_n 3, 1) := by decide +kernel
theorem dX3_readPart_54 : decode cX3_readPart 54 = .ok (.invokestatic 94, 3) := by decide +kernel
theorem dX3_readPart_57 : decode cX3_readPart 57 = .ok (.if_icmp .ge 24, 3) := by decide +kernel
theorem dX3_readPart_60 : decode cX3_readPart 60 = .ok (.aload_n 0, 1) := by decide +kernel
theorem dX3_readPart_61 : decode cX3_readPart 61 = .ok (.getfield 37, 3) := by decide +kernel
theorem dX3_readPart_64 : decode cX3_readPart 64 = .ok (.iconst (-1), 1) := by decide +kernel
theorem dX3_readPart_65 : decode cX3_readPart 65 = .ok (.if_icmp .ne 16, 3) := by decide +kernel
theorem dX3_readPart_68 : decode cX3_readPart 68 = .ok (.aload_n 0, 1) := by decide +kernel
theorem dX3_readPart_69 : decode cX3_readPart 69 = .ok (.iload_n 1, 1) := by decide +kernel
theorem dX3_readPart_70 : decode cX3_readPart 70 = .ok (.iconst 1, 1) := by decide +kernel
theorem dX3_readPart_71 : decode cX3_readPart 71 = .ok (.iadd, 1) := by decide +kernel
theorem dX3_readPart_72 : decode cX3_readPart 72 = .ok (.invokevirtual 58, 3) := by decide +kernel
theorem dX3_readPart_75 : decode cX3_readPart 75 = .ok (.iinc 5 1, 3) := by decide +kernel
theorem dX3_readPart_78 : decode cX3_readPart 78 = .ok (.goto (-27), 3) := by decide +kernel
theorem dX3_readPart_81 : decode cX3_readPart 81 = .ok (.aload_n 0, 1) := by decide +kernel
theorem dX3_readPart_82 : decode cX3_readPart 82 = .ok (.getfield 43, 3) := by decide +kernel
theorem dX3_readPart_85 : decode cX3_readPart 85 = .ok (.iload 4, 2) := by decide +kernel
theorem dX3_readPart_87 : decode cX3_readPart 87 = .ok (.invokevirtual 97, 3) := by decide +kernel
theorem dX3_readPart_90 : decode cX3_readPart 90 = .ok (.iload_n 3, 1) := by decide +kernel
theorem dX3_readPart_91 : decode cX3_readPart 91 = .ok (.bipush 6, 2) := by decide +kernel
theorem dX3_readPart_93 : decode cX3_readPart 93 = .ok (.if_icmp .ne 27, 3) := by decide +kernel
theorem dX3_readPart_96 : decode cX3_readPart 96 = .ok (.aload_n 0, 1) := by decide +kernel
theorem dX3_readPart_97 : decode cX3_readPart 97 = .ok (.getfield 37, 3) := by decide +kernel
theorem dX3_readPart_100 : decode cX3_readPart 100 = .ok (.iconst (-1), 1) := by decide +kernel
theorem dX3_readPart_101 : decode cX3_readPart 101 = .ok (.if_icmp .ne 19, 3) := by decide +kernel
theorem dX3_readPart_104 : decode cX3_readPart 104 = .ok (.aload_n 0, 1) := by decide +kernel
theorem dX3_readPart_105 : decode cX3_readPart 105 = .ok (.getfield 43, 3) := by decide +kernel
theorem dX3_readPart_108 : decode cX3_readPart 108 = .ok (.iload 4, 2) := by decide +kernel
theorem dX3_readPart_110 : decode cX3_readPart 110 = .ok (.invokevirtual 100, 3) := by decide +kernel
theorem dX3_readPart_113 : decode cX3_readPart 113 = .ok (.aload_n 0, 1) := by decide +kernel
theorem dX3_readPart_114 : decode cX3_readPart 114 = .ok (.iload_n 1, 1) := by decide +kernel
theorem dX3_readPart_115 : decode cX3_readPart 115 = .ok (.iconst 1, 1) := by decide +kernel
theorem dX3_readPart_116 : decode cX3_readPart 116 = .ok (.iadd, 1) := by decide +kernel
theorem dX3_readPart_117 : decode cX3_readPart 117 = .ok (.invokevirtual 65, 3) := by decide +kernel
theorem dX3_readPart_120 : decode cX3_readPart 120 = .ok (.return_, 1) := by decide +kernel
theorem eX3_readPart_0 : am_lim call mX3_readPart 0 [some (.ref a), l1, l2, l3, l4, l5] (S) σ = am_lim call mX3_readPart 1 [some (.ref a), l1, l2, l3, l4, l5] (.ref a :: S) σ := r_aload_n dX3_readPart_0 rfl
theorem eX3_readPart_1 (h : g_o σ b 3) : am_lim call mX3_readPart 1 [l0, l1, l2, l3, l4, l5] (.ref b :: []) σ = am_k (call mX3_nextSign [.ref b] σ) (fun r σ1 => am_lim call mX3_readPart 4 [l0, l1, l2, l3, l4, l5] (r.toList ++ []) σ1) := r_kV (S1 := []) dX3_readPart_1 mt_3_68 rfl h (Nat.le_of_ble_eq_true rfl)
theorem eX3_readPart_4 : am_lim call mX3_readPart 4 [l0, l1, l2, l3, l4, l5] (.int x :: S) σ = am_lim call mX3_readPart 5 [l0, l1, some (.int x), l3, l4, l5] (S) σ := r_istore_n dX3_readPart_4 rfl rfl rfl rfl
theorem eX3_readPart_5 : am_lim call mX3_readPart 5 [l0, l1, some (.int x), l3, l4, l5] (S) σ = am_lim call mX3_readPart 6 [l0, l1, some (.int x), l3, l4, l5] (.int x :: S) σ := r_iload_n dX3_readPart_5 rfl
theorem eX3_readPart_6 : am_lim call mX3_readPart 6 [l0, l1, l2, l3, l4, l5] (.int v0 :: []) σ = am_k (call mX3_opOf [.int v0] σ) (fun r σ1 => am_lim call mX3_readPart 9 [l0, l1, l2, l3, l4, l5] (r.toList ++ []) σ1) := r_kS (S1 := [.int v0]) dX3_readPart_6 ⟨rfl, rfl, rfl⟩ mt_3_82 rfl (Nat.le_of_ble_eq_true rfl)
theorem eX3_readPart_9 : am_lim call mX3_readPart 9 [l0, l1, l2, l3, l4, l5] (.int x :: S) σ = am_lim call mX3_readPart 10 [l0, l1, l2, some (.int x), l4, l5] (S) σ := r_istore_n dX3_readPart_9 rfl rfl rfl rfl
theorem eX3_readPart_10 : am_lim call mX3_readPart 10 [l0, l1, l2, some (.int x), l4, l5] (S) σ = am_lim call mX3_readPart 11 [l0, l1, l2, some (.int x), l4, l5] (.int x :: S) σ := r_iload_n dX3_readPart_10 rfl
theorem eX3_readPart_11 : am_lim call mX3_readPart 11 [l0, l1, l2, l3, l4, l5] (S) σ = am_lim call mX3_readPart 12 [l0, l1, l2, l3, l4, l5] (.int (-1) :: S) σ := r_iconst dX3_readPart_11 (by decide)
theorem eX3_readPart_12 : am_lim call mX3_readPart 12 [l0, l1, l2, l3, l4, l5] (.int y :: .int x :: S) σ = if x = y then am_lim call mX3_readPart 21 [l0, l1, l2, l3, l4, l5] (S) σ else am_lim call mX3_readPart 15 [l0, l1, l2, l3, l4, l5] (S) σ := r_icmpB 21 dX3_readPart_12 (by decide) rfl
theorem eX3_readPart_15 : am_lim call mX3_readPart 15 [l0, some (.int x), l2, l3, l4, l5] (S) σ = am_lim call mX3_readPart 16 [l0, some (.int x), l2, l3, l4, l5] (.int x :: S) σ := r_iload_n dX3_readPart_15 rfl
theorem eX3_readPart_16 : am_lim call mX3_readPart 16 [l0, l1, l2, l3, l4, l5] (S) σ = am_lim call mX3_readPart 18 [l0, l1, l2, l3, l4, l5] (.int 20 :: S) σ := r_bipush dX3_readPart_16 (by decide)
theorem eX3_readPart_18 : am_lim call mX3_readPart 18 [l0, l1, l2, l3, l4, l5] (.int y :: .int x :: S) σ = if x ≤ y then am_lim call mX3_readPart 26 [l0, l1, l2, l3, l4, l5] (S) σ else am_lim call mX3_readPart 21 [l0, l1, l2, l3, l4, l5] (S) σ := r_icmpB 26 dX3_readPart_18 (by decide) rfl
theorem eX3_readPart_26 : am_lim call mX3_readPart 26 [some (.ref a), l1, l2, l3, l4, l5] (S) σ = am_lim call mX3_readPart 27 [some (.ref a), l1, l2, l3, l4, l5] (.ref a :: S) σ := r_aload_n dX3_readPart_26 rfl
theorem eX3_readPart_27 (h : g_o σ a 3) : am_lim call mX3_readPart 27 [l0, l1, l2, l3, l4, l5] (.ref a :: S) σ = am_lim call mX3_readPart 30 [l0, l1, l2, l3, l4, l5] (va_rf (g_R σ a 8) :: S) σ := r_getR dX3_readPart_27 f_3_43 rfl h
theorem eX3_readPart_30 : am_lim call mX3_readPart 30 [l0, l1, l2, some (.int x), l4, l5] (S) σ = am_lim call mX3_readPart 31 [l0, l1, l2, some (.int x), l4, l5] (.int x :: S) σ := r_iload_n dX3_readPart_30 rfl
theorem eX3_readPart_31 : am_lim call mX3_readPart 31 [some (.ref a), l1, l2, l3, l4, l5] (S) σ = am_lim call mX3_readPart 32 [some (.ref a), l1, l2, l3, l4, l5] (.ref a :: S) σ := r_aload_n dX3_readPart_31 rfl
theorem eX3_readPart_32 (h : g_o σ a 3) : am_lim call mX3_readPart 32 [l0, l1, l2, l3, l4, l5] (.ref a :: S) σ = am_lim call mX3_readPart 35 [l0, l1, l2, l3, l4, l5] (.int (g_I σ a 5) :: S) σ := r_getI dX3_readPart_32 f_3_34 rfl h
theorem eX3_readPart_35 (h : g_o σ b 7) : am_lim call mX3_readPart 35 [l0, l1, l2, l3, l4, l5] (.int v1 :: .int v0 :: .ref b :: []) σ = am_k (call mX7_add [.ref b, .int v0, .int v1] σ) (fun r σ1 => am_lim call mX3_readPart 38 [l0, l1, l2, l3, l4, l5] (r.toList ++ []) σ1) := r_kV (S1 := [.int v1, .int v0]) dX3_readPart_35 mt_3_86 rfl h (Nat.le_of_ble_eq_true rfl)
theorem eX3_readPart_38 : am_lim call mX3_readPart 38 [l0, l1, l2, l3, l4, l5] (.int x :: S) σ = am_lim call mX3_readPart 40 [l0, l1, l2, l3, some (.int x), l5] (S) σ := r_istore dX3_readPart_38 rfl rfl rfl rfl
theorem eX3_readPart_40 : am_lim call mX3_readPart 40 [some (.ref a), l1, l2, l3, l4, l5] (S) σ = am_lim call mX3_readPart 41 [some (.ref a), l1, l2, l3, l4, l5] (.ref a :: S) σ := r_aload_n dX3_readPart_40 rfl
theorem eX3_readPart_41 : am_lim call mX3_readPart 41 [l0, l1, l2, l3, some (.int x), l5] (S) σ = am_lim call mX3_readPart 43 [l0, l1, l2, l3, some (.int x), l5] (.int x :: S) σ := r_iload dX3_readPart_41 rfl
theorem eX3_readPart_43 : am_lim call mX3_readPart 43 [l0, l1, l2, some (.int x), l4, l5] (S) σ = am_lim call mX3_readPart 44 [l0, l1, l2, some (.int x), l4, l5] (.int x :: S) σ := r_iload_n dX3_readPart_43 rfl
theorem eX3_readPart_44 : am_lim call mX3_readPart 44 [l0, l1, some (.int x), l3, l4, l5] (S) σ = am_lim call mX3_readPart 45 [l0, l1, some (.int x), l3, l4, l5] (.int x :: S) σ := r_iload_n dX3_readPart_44 rfl
theorem eX3_readPart_45 (h : g_o σ b 3) : am_lim call mX3_readPart 45 [l0, l1, l2, l3, l4, l5] (.int v2 :: .int v1 :: .int v0 :: .ref b :: []) σ = am_k (call mX3_readHead [.ref b, .int v0, .int v1, .int v2] σ) (fun r σ1 => am_lim call mX3_readPart 48 [l0, l1, l2, l3, l4, l5] (r.toList ++ []) σ1) := r_kV (S1 := [.int v2, .int v1, .int v0]) dX3_readPart_45 mt_3_90 rfl h (Nat.le_of_ble_eq_true rfl)
theorem eX3_readPart_48 : am_lim call mX3_readPart 48 [l0, l1, l2, l3, l4, l5] (S) σ = am_lim call mX3_readPart 49 [l0, l1, l2, l3, l4, l5] (.int 0 :: S) σ := r_iconst dX3_readPart_48 (by decide)
theorem eX3_readPart_49 : am_lim call mX3_readPart 49 [l0, l1, l2, l3, l4, l5] (.int x :: S) σ = am_lim call mX3_readPart 51 [l0, l1, l2, l3, l4, some (.int x)] (S) σ := r_istore dX3_readPart_49 rfl rfl rfl rfl
theorem eX3_readPart_51 : am_lim call mX3_readPart 51 [l0, l1, l2, l3, l4, some (.int x)] (S) σ = am_lim call mX3_readPart 53 [l0, l1, l2, l3, l4, some (.int x)] (.int x :: S) σ := r_iload dX3_readPart_51 rfl
theorem eX3_readPart_53 : am_lim call mX3_readPart 53 [l0, l1, l2, some (.int x), l4, l5] (S) σ = am_lim call mX3_readPart 54 [l0, l1, l2, some (.int x), l4, l5] (.int x :: S) σ := r_iload_n dX3_readPart_53 rfl
theorem eX3_readPart_54 : am_lim call mX3_readPart 54 [l0, l1, l2, l3, l4, l5] (.int v0 :: .int s0 :: []) σ = am_k (call mX7_partsOf [.int v0] σ) (fun r σ1 => am_lim call mX3_readPart 57 [l0, l1, l2, l3, l4, l5] (r.toList ++ .int s0 :: []) σ1) := r_kS (S1 := [.int v0]) dX3_readPart_54 ⟨rfl, rfl, rfl⟩ mt_3_94 rfl (Nat.le_of_ble_eq_true rfl)
theorem eX3_readPart_57 : am_lim call mX3_readPart 57 [l0, l1, l2, l3, l4, l5] (.int y :: .int x :: S) σ = if y ≤ x then am_lim call mX3_readPart 81 [l0, l1, l2, l3, l4, l5] (S) σ else am_lim call mX3_readPart 60 [l0, l1, l2, l3, l4, l5] (S) σ := r_icmpB 81 dX3_readPart_57 (by decide) rfl
theorem eX3_readPart_60 : am_lim call mX3_readPart 60 [some (.ref a), l1, l2, l3, l4, l5] (S) σ = am_lim call mX3_readPart 61 [some (.ref a), l1, l2, l3, l4, l5] (.ref a :: S) σ := r_aload_n dX3_readPart_60 rfl
theorem eX3_readPart_61 (h : g_o σ a 3) : am_lim call mX3_readPart 61 [l0, l1, l2, l3, l4, l5] (.ref a :: S) σ = am_lim call mX3_readPart 64 [l0, l1, l2, l3, l4, l5] (.int (g_I σ a 6) :: S) σ := r_getI dX3_readPart_61 f_3_37 rfl h
theorem eX3_readPart_64 : am_lim call mX3_readPart 64 [l0, l1, l2, l3, l4, l5] (S) σ = am_lim call mX3_readPart 65 [l0, l1, l2, l3, l4, l5] (.int (-1) :: S) σ := r_iconst dX3_readPart_64 (by decide)
theorem eX3_readPart_65 : am_lim call mX3_readPart 65 [l0, l1, l2, l3, l4, l5] (.int y :: .int x :: S) σ = if x ≠ y then am_lim call mX3_readPart 81 [l0, l1, l2, l3, l4, l5] (S) σ else am_lim call mX3_readPart 68 [l0, l1, l2, l3, l4, l5] (S) σ := r_icmpB 81 dX3_readPart_65 (by decide) rfl
theorem eX3_readPart_68 : am_lim call mX3_readPart 68 [some (.ref a), l1, l2, l3, l4, l5] (S) σ = am_lim call mX3_readPart 69 [some (.ref a), l1, l2, l3, l4, l5] (.ref a :: S) σ := r_aload_n dX3_readPart_68 rfl
theorem eX3_readPart_69 : am_lim call mX3_readPart 69 [l0, some (.int x), l2, l3, l4, l5] (S) σ = am_lim call mX3_readPart 70 [l0, some (.int x), l2, l3, l4, l5] (.int x :: S) σ := r_iload_n dX3_readPart_69 rfl
theorem eX3_readPart_70 : am_lim call mX3_readPart 70 [l0, l1, l2, l3, l4, l5] (S) σ = am_lim call mX3_readPart 71 [l0, l1, l2, l3, l4, l5] (.int 1 :: S) σ := r_iconst dX3_readPart_70 (by decide)
theorem eX3_readPart_71 : am_lim call mX3_readPart 71 [l0, l1, l2, l3, l4, l5] (.int y :: .int x :: S) σ = am_lim call mX3_readPart 72 [l0, l1, l2, l3, l4, l5] (.int (x + y) :: S) σ := r_iadd dX3_readPart_71
theorem eX3_readPart_72 (h : g_o σ b 3) : am_lim call mX3_readPart 72 [l0, l1, l2, l3, l4, l5] (.int v0 :: .ref b :: []) σ = am_k (call mX3_readPart [.ref b, .int v0] σ) (fun r σ1 => am_lim call mX3_readPart 75 [l0, l1, l2, l3, l4, l5] (r.toList ++ []) σ1) := r_kV (S1 := [.int v0]) dX3_readPart_72 mt_3_58 rfl h (Nat.le_of_ble_eq_true rfl)
theorem eX3_readPart_75 : am_lim call mX3_readPart 75 [l0, l1, l2, l3, l4, some (.int x)] (S) σ = am_lim call mX3_readPart 78 [l0, l1, l2, l3, l4, some (.int (x + 1))] (S) σ := r_iinc dX3_readPart_75 rfl (by decide) rfl rfl rfl rfl
theorem eX3_readPart_78 : am_lim call mX3_readPart 78 [l0, l1, l2, l3, l4, l5] (S) σ = am_lim call mX3_readPart 51 [l0, l1, l2, l3, l4, l5] (S) σ := r_goto 51 dX3_readPart_78 (by decide)
theorem eX3_readPart_81 : am_lim call mX3_readPart 81 [some (.ref a), l1, l2, l3, l4, l5] (S) σ = am_lim call mX3_readPart 82 [some (.ref a), l1, l2, l3, l4, l5] (.ref a :: S) σ := r_aload_n dX3_readPart_81 rfl
theorem eX3_readPart_82 (h : g_o σ a 3) : am_lim call mX3_readPart 82 [l0, l1, l2, l3, l4, l5] (.ref a :: S) σ = am_lim call mX3_readPart 85 [l0, l1, l2, l3, l4, l5] (va_rf (g_R σ a 8) :: S) σ := r_getR dX3_readPart_82 f_3_43 rfl h
theorem eX3_readPart_85 : am_lim call mX3_readPart 85 [l0, l1, l2, l3, some (.int x), l5] (S) σ = am_lim call mX3_readPart 87 [l0, l1, l2, l3, some (.int x), l5] (.int x :: S) σ := r_iload dX3_readPart_85 rfl
theorem eX3_readPart_87 (h : g_o σ b 7) : am_lim call mX3_readPart 87 [l0, l1, l2, l3, l4, l5] (.int v0 :: .ref b :: []) σ = am_k (call mX7_close [.ref b, .int v0] σ) (fun r σ1 => am_lim call mX3_readPart 90 [l0, l1, l2, l3, l4, l5] (r.toList ++ []) σ1) := r_kV (S1 := [.int v0]) dX3_readPart_87 mt_3_97 rfl h (Nat.le_of_ble_eq_true rfl)
theorem eX3_readPart_90 : am_lim call mX3_readPart 90 [l0, l1, l2, some (.int x), l4, l5] (S) σ = am_lim call mX3_readPart 91 [l0, l1, l2, some (.int x), l4, l5] (.int x :: S) σ := r_iload_n dX3_readPart_90 rfl
theorem eX3_readPart_91 : am_lim call mX3_readPart 91 [l0, l1, l2, l3, l4, l5] (S) σ = am_lim call mX3_readPart 93 [l0, l1, l2, l3, l4, l5] (.int 6 :: S) σ := r_bipush dX3_readPart_91 (by decide)
theorem eX3_readPart_93 : am_lim call mX3_readPart 93 [l0, l1, l2, l3, l4, l5] (.int y :: .int x :: S) σ = if x ≠ y then am_lim call mX3_readPart 120 [l0, l1, l2, l3, l4, l5] (S) σ else am_lim call mX3_readPart 96 [l0, l1, l2, l3, l4, l5] (S) σ := r_icmpB 120 dX3_readPart_93 (by decide) rfl
theorem eX3_readPart_96 : am_lim call mX3_readPart 96 [some (.ref a), l1, l2, l3, l4, l5] (S) σ = am_lim call mX3_readPart 97 [some (.ref a), l1, l2, l3, l4, l5] (.ref a :: S) σ := r_aload_n dX3_readPart_96 rfl
theorem eX3_readPart_97 (h : g_o σ a 3) : am_lim call mX3_readPart 97 [l0, l1, l2, l3, l4, l5] (.ref a :: S) σ = am_lim call mX3_readPart 100 [l0, l1, l2, l3, l4, l5] (.int (g_I σ a 6) :: S) σ := r_getI dX3_readPart_97 f_3_37 rfl h
theorem eX3_readPart_100 : am_lim call mX3_readPart 100 [l0, l1, l2, l3, l4, l5] (S) σ = am_lim call mX3_readPart 101 [l0, l1, l2, l3, l4, l5] (.int (-1) :: S) σ := r_iconst dX3_readPart_100 (by decide)
theorem eX3_readPart_101 : am_lim call mX3_readPart 101 [l0, l1, l2, l3, l4, l5] (.int y :: .int x :: S) σ = if x ≠ y then am_lim call mX3_readPart 120 [l0, l1, l2, l3, l4, l5] (S) σ else am_lim call mX3_readPart 104 [l0, l1, l2, l3, l4, l5] (S) σ := r_icmpB 120 dX3_readPart_101 (by decide) rfl
theorem eX3_readPart_104 : am_lim call mX3_readPart 104 [some (.ref a), l1, l2, l3, l4, l5] (S) σ = am_lim call mX3_readPart 105 [some (.ref a), l1, l2, l3, l4, l5] (.ref a :: S) σ := r_aload_n dX3_readPart_104 rfl
theorem eX3_readPart_105 (h : g_o σ a 3) : am_lim call mX3_readPart 105 [l0, l1, l2, l3, l4, l5] (.ref a :: S) σ = am_lim call mX3_readPart 108 [l0, l1, l2, l3, l4, l5] (va_rf (g_R σ a 8) :: S) σ := r_getR dX3_readPart_105 f_3_43 rfl h
theorem eX3_readPart_108 : am_lim call mX3_readPart 108 [l0, l1, l2, l3, some (.int x), l5] (S) σ = am_lim call mX3_readPart 110 [l0, l1, l2, l3, some (.int x), l5] (.int x :: S) σ := r_iload dX3_readPart_108 rfl
theorem eX3_readPart_110 (h : g_o σ b 7) : am_lim call mX3_readPart 110 [l0, l1, l2, l3, l4, l5] (.int v0 :: .ref b :: []) σ = am_k (call mX7_beginType [.ref b, .int v0] σ) (fun r σ1 => am_lim call mX3_readPart 113 [l0, l1, l2, l3, l4, l5] (r.toList ++ []) σ1) := r_kV (S1 := [.int v0]) dX3_readPart_110 mt_3_100 rfl h (Nat.le_of_ble_eq_true rfl)
theorem eX3_readPart_113 : am_lim call mX3_readPart 113 [some (.ref a), l1, l2, l3, l4, l5] (S) σ = am_lim call mX3_readPart 114 [some (.ref a), l1, l2, l3, l4, l5] (.ref a :: S) σ := r_aload_n dX3_readPart_113 rfl
theorem eX3_readPart_114 : am_lim call mX3_readPart 114 [l0, some (.int x), l2, l3, l4, l5] (S) σ = am_lim call mX3_readPart 115 [l0, some (.int x), l2, l3, l4, l5] (.int x :: S) σ := r_iload_n dX3_readPart_114 rfl
theorem eX3_readPart_115 : am_lim call mX3_readPart 115 [l0, l1, l2, l3, l4, l5] (S) σ = am_lim call mX3_readPart 116 [l0, l1, l2, l3, l4, l5] (.int 1 :: S) σ := r_iconst dX3_readPart_115 (by decide)
theorem eX3_readPart_116 : am_lim call mX3_readPart 116 [l0, l1, l2, l3, l4, l5] (.int y :: .int x :: S) σ = am_lim call mX3_readPart 117 [l0, l1, l2, l3, l4, l5] (.int (x + y) :: S) σ := r_iadd dX3_readPart_116
theorem eX3_readPart_117 (h : g_o σ b 3) : am_lim call mX3_readPart 117 [l0, l1, l2, l3, l4, l5] (.int v0 :: .ref b :: []) σ = am_k (call mX3_readType [.ref b, .int v0] σ) (fun r σ1 => am_lim call mX3_readPart 120 [l0, l1, l2, l3, l4, l5] (r.toList ++ []) σ1) := r_kV (S1 := [.int v0]) dX3_readPart_117 mt_3_65 rfl h (Nat.le_of_ble_eq_true rfl)
theorem eX3_readPart_120 : am_lim call mX3_readPart 120 [l0, l1, l2, l3, l4, l5] ([]) σ = some (none, σ) := r_retV dX3_readPart_120 rfl
theorem eX3_readPart_21 : am_lim call mX3_readPart 21 [some (.ref a), l1, l2, l3, l4, l5] (S) σ = am_lim call mX3_readPart 22 [some (.ref a), l1, l2, l3, l4, l5] (.ref a :: S) σ := r_aload_n dX3_readPart_21 rfl
theorem eX3_readPart_22 (h : g_o σ b 3) : am_lim call mX3_readPart 22 [l0, l1, l2, l3, l4, l5] (.ref b :: []) σ = am_k (call mX3_refuse [.ref b] σ) (fun r σ1 => am_lim call mX3_readPart 25 [l0, l1, l2, l3, l4, l5] (r.toList ++ []) σ1) := r_kV (S1 := []) dX3_readPart_22 mt_3_72 rfl h (Nat.le_of_ble_eq_true rfl)
theorem eX3_readPart_25 : am_lim call mX3_readPart 25 [l0, l1, l2, l3, l4, l5] ([]) σ = some (none, σ) := r_retV dX3_readPart_25 rfl
theorem nX3_readPart {d : Nat} : am_run (d + 1) mX3_readPart [.ref b, .int v0] σ = am_lim (am_run d) mX3_readPart 0 [some (.ref b), some (.int v0), none, none, none, none] [] σ := am_run_S rfl rfl rfl rfl
theorem dX3_nextSign_0 : decode cX3_nextSign 0 = .ok (.aload_n 0, 1) := by decide +kernel
theorem dX3_nextSign_1 : decode cX3_nextSign 1 = .ok (.getfield 34, 3) := by decide +kernel
theorem dX3_nextSign_4 : decode cX3_nextSign 4 = .ok (.aload_n 0, 1) := by decide +kernel
theorem dX3_nextSign_5 : decode cX3_nextSign 5 = .ok (.getfield 30, 3) := by decide +kernel
theorem dX3_nextSign_8 : decode cX3_nextSign 8 = .ok (.if_icmp .ge 40, 3) := by decide +kernel
theorem dX3_nextSign_11 : decode cX3_nextSign 11 = .ok (.aload_n 0, 1) := by decide +kernel
theorem dX3_nextSign_12 : decode cX3_nextSign 12 = .ok (.getfield 34, 3) := by decide +kernel
theorem dX3_nextSign_15 : decode cX3_nextSign 15 = .ok (.sipush 300, 3) := by decide +kernel
theorem dX3_nextSign_18 : decode cX3_nextSign 18 = .ok (.if_icmp .ge 30, 3) := by decide +kernel
theorem dX3_nextSign_21 : decode cX3_nextSign 21 = .ok (.aload_n 0, 1) := by decide +kernel
theorem dX3_nextSign_22 : decode cX3_nextSign 22 = .ok (.getfield 11, 3) := by decide +kernel
theorem dX3_nextSign_25 : decode cX3_nextSign 25 = .ok (.aload_n 0, 1) := by decide +kernel
theorem dX3_nextSign_26 : decode cX3_nextSign 26 = .ok (.getfield 34, 3) := by decide +kernel
theorem dX3_nextSign_29 : decode cX3_nextSign 29 = .ok (.iaload, 1) := by decide +kernel
theorem dX3_nextSign_30 : decode cX3_nextSign 30 = .ok (.bipush 32, 2) := by decide +kernel
theorem dX3_nextSign_32 : decode cX3_nextSign 32 = .ok (.if_icmp .ne 16, 3) := by decide +kernel
theorem dX3_nextSign_35 : decode cX3_nextSign 35 = .ok (.aload_n 0, 1) := by decide +kernel
theorem dX3_nextSign_36 : decode cX3_nextSign 36 = .ok (.dup, 1) := by decide +kernel
theorem dX3_nextSign_37 : decode cX3_nextSign 37 = .ok (.getfield 34, 3) := by decide +kernel
theorem dX3_nextSign_40 : decode cX3_nextSign 40 = .ok (.iconst 1, 1) := by decide +kernel
theorem dX3_nextSign_41 : decode cX3_nextSign 41 = .ok (.iadd, 1) := by decide +kernel
theorem dX3_nextSign_42 : decode cX3_nextSign 42 = .ok (.putfield 34, 3) := by decide +kernel
theorem dX3_nextSign_45 : decode cX3_nextSign 45 = .ok (.goto (-45), 3) := by decide +kernel
theorem dX3_nextSign_48 : decode cX3_nextSign 48 = .ok (.aload_n 0, 1) := by decide +kernel
theorem dX3_nextSign_49 : decode cX3_nextSign 49 = .ok (.getfield 34, 3) := by decide +kernel
theorem dX3_nextSign_52 : decode cX3_nextSign 52 = .ok (.aload_n 0, 1) := by decide +kernel
theorem dX3_nextSign_53 : decode cX3_nextSign 53 = .ok (.getfield 30, 3) := by decide +kernel
theorem dX3_nextSign_56 : decode cX3_nextSign 56 = .ok (.if_icmp .ge 25, 3) := by decide +kernel
theorem dX3_nextSign_59 : decode cX3_nextSign 59 = .ok (.aload_n 0, 1) := by decide +kernel
theorem dX3_nextSign_60 : decode cX3_nextSign 60 = .ok (.getfield 34, 3) := by decide +kernel
theorem dX3_nextSign_63 : decode cX3_nextSign 63 = .ok (.sipush 300, 3) := by decide +kernel
theorem dX3_nextSign_66 : decode cX3_nextSign 66 = .ok (.if_icmp .ge 15, 3) := by decide +kernel
theorem dX3_nextSign_69 : decode cX3_nextSign 69 = .ok (.aload_n 0, 1) := by decide +kernel
theorem dX3_nextSign_70 : decode cX3_nextSign 70 = .ok (.getfield 11, 3) := by decide +kernel
theorem dX3_nextSign_73 : decode cX3_nextSign 73 = .ok (.aload_n 0, 1) := by decide +kernel
theorem dX3_nextSign_74 : decode cX3_nextSign 74 = .ok (.getfield 34, 3) := by decide +kernel
theorem dX3_nextSign_77 : decode cX3_nextSign 77 = .ok (.iaload, 1) := by decide +kernel
theorem dX3_nextSign_78 : decode cX3_nextSign 78 = .ok (.goto 4, 3) := by decide +kernel
theorem dX3_nextSign_81 : decode cX3_nextSign 81 = .ok (.iconst (-1), 1) := by decide +kernel
theorem dX3_nextSign_82 : decode cX3_nextSign 82 = .ok (.ireturn, 1) := by decide +kernel
theorem eX3_nextSign_0 : am_lim call mX3_nextSign 0 [some (.ref a)] (S) σ = am_lim call mX3_nextSign 1 [some (.ref a)] (.ref a :: S) σ := r_aload_n dX3_nextSign_0 rfl
theorem eX3_nextSign_1 (h : g_o σ a 3) : am_lim call mX3_nextSign 1 [l0] (.ref a :: S) σ = am_lim call mX3_nextSign 4 [l0] (.int (g_I σ a 5) :: S) σ := r_getI dX3_nextSign_1 f_3_34 rfl h
theorem eX3_nextSign_4 : am_lim call mX3_nextSign 4 [some (.ref a)] (S) σ = am_lim call mX3_nextSign 5 [some (.ref a)] (.ref a :: S) σ := r_aload_n dX3_nextSign_4 rfl
theorem eX3_nextSign_5 (h : g_o σ a 3) : am_lim call mX3_nextSign 5 [l0] (.ref a :: S) σ = am_lim call mX3_nextSign 8 [l0] (.int (g_I σ a 0) :: S) σ := r_getI dX3_nextSign_5 f_3_30 rfl h
theorem eX3_nextSign_8 : am_lim call mX3_nextSign 8 [l0] (.int y :: .int x :: S) σ = if y ≤ x then am_lim call mX3_nextSign 48 [l0] (S) σ else am_lim call mX3_nextSign 11 [l0] (S) σ := r_icmpB 48 dX3_nextSign_8 (by decide) rfl
theorem eX3_nextSign_11 : am_lim call mX3_nextSign 11 [some (.ref a)] (S) σ = am_lim call mX3_nextSign 12 [some (.ref a)] (.ref a :: S) σ := r_aload_n dX3_nextSign_11 rfl
theorem eX3_nextSign_12 (h : g_o σ a 3) : am_lim call mX3_nextSign 12 [l0] (.ref a :: S) σ = am_lim call mX3_nextSign 15 [l0] (.int (g_I σ a 5) :: S) σ := r_getI dX3_nextSign_12 f_3_34 rfl h
theorem eX3_nextSign_15 : am_lim call mX3_nextSign 15 [l0] (S) σ = am_lim call mX3_nextSign 18 [l0] (.int 300 :: S) σ := r_sipush dX3_nextSign_15 (by decide)
theorem eX3_nextSign_18 : am_lim call mX3_nextSign 18 [l0] (.int y :: .int x :: S) σ = if y ≤ x then am_lim call mX3_nextSign 48 [l0] (S) σ else am_lim call mX3_nextSign 21 [l0] (S) σ := r_icmpB 48 dX3_nextSign_18 (by decide) rfl
theorem eX3_nextSign_21 : am_lim call mX3_nextSign 21 [some (.ref a)] (S) σ = am_lim call mX3_nextSign 22 [some (.ref a)] (.ref a :: S) σ := r_aload_n dX3_nextSign_21 rfl
theorem eX3_nextSign_22 (h : g_o σ a 3) : am_lim call mX3_nextSign 22 [l0] (.ref a :: S) σ = am_lim call mX3_nextSign 25 [l0] (va_rf (g_R σ a 3) :: S) σ := r_getR dX3_nextSign_22 f_3_11 rfl h
theorem eX3_nextSign_25 : am_lim call mX3_nextSign 25 [some (.ref a)] (S) σ = am_lim call mX3_nextSign 26 [some (.ref a)] (.ref a :: S) σ := r_aload_n dX3_nextSign_25 rfl
theorem eX3_nextSign_26 (h : g_o σ a 3) : am_lim call mX3_nextSign 26 [l0] (.ref a :: S) σ = am_lim call mX3_nextSign 29 [l0] (.int (g_I σ a 5) :: S) σ := r_getI dX3_nextSign_26 f_3_34 rfl h
theorem eX3_nextSign_29 {n : Nat} (h : g_a σ a n) (hi : am_in x n) : am_lim call mX3_nextSign 29 [l0] (.int x :: .ref a :: S) σ = am_lim call mX3_nextSign 30 [l0] (.int (g_I σ a x.toNatClampNeg) :: S) σ := r_iald dX3_nextSign_29 h hi
theorem eX3_nextSign_30 : am_lim call mX3_nextSign 30 [l0] (S) σ = am_lim call mX3_nextSign 32 [l0] (.int 32 :: S) σ := r_bipush dX3_nextSign_30 (by decide)
theorem eX3_nextSign_32 : am_lim call mX3_nextSign 32 [l0] (.int y :: .int x :: S) σ = if x ≠ y then am_lim call mX3_nextSign 48 [l0] (S) σ else am_lim call mX3_nextSign 35 [l0] (S) σ := r_icmpB 48 dX3_nextSign_32 (by decide) rfl
theorem eX3_nextSign_35 : am_lim call mX3_nextSign 35 [some (.ref a)] (S) σ = am_lim call mX3_nextSign 36 [some (.ref a)] (.ref a :: S) σ := r_aload_n dX3_nextSign_35 rfl
theorem eX3_nextSign_36 : am_lim call mX3_nextSign 36 [l0] (.ref a :: S) σ = am_lim call mX3_nextSign 37 [l0] (.ref a :: .ref a :: S) σ := r_dupA dX3_nextSign_36
theorem eX3_nextSign_37 (h : g_o σ a 3) : am_lim call mX3_nextSign 37 [l0] (.ref a :: S) σ = am_lim call mX3_nextSign 40 [l0] (.int (g_I σ a 5) :: S) σ := r_getI dX3_nextSign_37 f_3_34 rfl h
theorem eX3_nextSign_40 : am_lim call mX3_nextSign 40 [l0] (S) σ = am_lim call mX3_nextSign 41 [l0] (.int 1 :: S) σ := r_iconst dX3_nextSign_40 (by decide)
theorem eX3_nextSign_41 : am_lim call mX3_nextSign 41 [l0] (.int y :: .int x :: S) σ = am_lim call mX3_nextSign 42 [l0] (.int (x + y) :: S) σ := r_iadd dX3_nextSign_41
theorem eX3_nextSign_42 (h : g_o σ a 3) : am_lim call mX3_nextSign 42 [l0] (.int x :: .ref a :: S) σ = am_lim call mX3_nextSign 45 [l0] (S) (am_sI σ a 5 x) := r_putI dX3_nextSign_42 f_3_34 rfl rfl h
theorem eX3_nextSign_45 : am_lim call mX3_nextSign 45 [l0] (S) σ = am_lim call mX3_nextSign 0 [l0] (S) σ := r_goto 0 dX3_nextSign_45 (by decide)
theorem eX3_nextSign_48 : am_lim call mX3_nextSign 48 [some (.ref a)] (S) σ = am_lim call mX3_nextSign 49 [some (.ref a)] (.ref a :: S) σ := r_aload_n dX3_nextSign_48 rfl
theorem eX3_nextSign_49 (h : g_o σ a 3) : am_lim call mX3_nextSign 49 [l0] (.ref a :: S) σ = am_lim call mX3_nextSign 52 [l0] (.int (g_I σ a 5) :: S) σ := r_getI dX3_nextSign_49 f_3_34 rfl h
theorem eX3_nextSign_52 : am_lim call mX3_nextSign 52 [some (.ref a)] (S) σ = am_lim call mX3_nextSign 53 [some (.ref a)] (.ref a :: S) σ := r_aload_n dX3_nextSign_52 rfl
theorem eX3_nextSign_53 (h : g_o σ a 3) : am_lim call mX3_nextSign 53 [l0] (.ref a :: S) σ = am_lim call mX3_nextSign 56 [l0] (.int (g_I σ a 0) :: S) σ := r_getI dX3_nextSign_53 f_3_30 rfl h
theorem eX3_nextSign_56 : am_lim call mX3_nextSign 56 [l0] (.int y :: .int x :: S) σ = if y ≤ x then am_lim call mX3_nextSign 81 [l0] (S) σ else am_lim call mX3_nextSign 59 [l0] (S) σ := r_icmpB 81 dX3_nextSign_56 (by decide) rfl
theorem eX3_nextSign_59 : am_lim call mX3_nextSign 59 [some (.ref a)] (S) σ = am_lim call mX3_nextSign 60 [some (.ref a)] (.ref a :: S) σ := r_aload_n dX3_nextSign_59 rfl
theorem eX3_nextSign_60 (h : g_o σ a 3) : am_lim call mX3_nextSign 60 [l0] (.ref a :: S) σ = am_lim call mX3_nextSign 63 [l0] (.int (g_I σ a 5) :: S) σ := r_getI dX3_nextSign_60 f_3_34 rfl h
theorem eX3_nextSign_63 : am_lim call mX3_nextSign 63 [l0] (S) σ = am_lim call mX3_nextSign 66 [l0] (.int 300 :: S) σ := r_sipush dX3_nextSign_63 (by decide)
theorem eX3_nextSign_66 : am_lim call mX3_nextSign 66 [l0] (.int y :: .int x :: S) σ = if y ≤ x then am_lim call mX3_nextSign 81 [l0] (S) σ else am_lim call mX3_nextSign 69 [l0] (S) σ := r_icmpB 81 dX3_nextSign_66 (by decide) rfl
theorem eX3_nextSign_69 : am_lim call mX3_nextSign 69 [some (.ref a)] (S) σ = am_lim call mX3_nextSign 70 [some (.ref a)] (.ref a :: S) σ := r_aload_n dX3_nextSign_69 rfl
theorem eX3_nextSign_70 (h : g_o σ a 3) : am_lim call mX3_nextSign 70 [l0] (.ref a :: S) σ = am_lim call mX3_nextSign 73 [l0] (va_rf (g_R σ a 3) :: S) σ := r_getR dX3_nextSign_70 f_3_11 rfl h
theorem eX3_nextSign_73 : am_lim call mX3_nextSign 73 [some (.ref a)] (S) σ = am_lim call mX3_nextSign 74 [some (.ref a)] (.ref a :: S) σ := r_aload_n dX3_nextSign_73 rfl
theorem eX3_nextSign_74 (h : g_o σ a 3) : am_lim call mX3_nextSign 74 [l0] (.ref a :: S) σ = am_lim call mX3_nextSign 77 [l0] (.int (g_I σ a 5) :: S) σ := r_getI dX3_nextSign_74 f_3_34 rfl h
theorem eX3_nextSign_77 {n : Nat} (h : g_a σ a n) (hi : am_in x n) : am_lim call mX3_nextSign 77 [l0] (.int x :: .ref a :: S) σ = am_lim call mX3_nextSign 78 [l0] (.int (g_I σ a x.toNatClampNeg) :: S) σ := r_iald dX3_nextSign_77 h hi
theorem eX3_nextSign_78 : am_lim call mX3_nextSign 78 [l0] (S) σ = am_lim call mX3_nextSign 82 [l0] (S) σ := r_goto 82 dX3_nextSign_78 (by decide)
theorem eX3_nextSign_82 : am_lim call mX3_nextSign 82 [l0] ([.int x]) σ = some (some (.int x), σ) := r_retI dX3_nextSign_82 rfl
theorem eX3_nextSign_81 : am_lim call mX3_nextSign 81 [l0] (S) σ = am_lim call mX3_nextSign 82 [l0] (.int (-1) :: S) σ := r_iconst dX3_nextSign_81 (by decide)
theorem nX3_nextSign {d : Nat} : am_run (d + 1) mX3_nextSign [.ref b] σ = am_lim (am_run d) mX3_nextSign 0 [some (.ref b)] [] σ := am_run_S rfl rfl rfl rfl
theorem dX3_opOf_0 : decode cX3_opOf 0 = .ok (.iload_n 0, 1) := by decide +kernel
theorem dX3_opOf_1 : decode cX3_opOf 1 = .ok (.lookupswitch 147 #[(38, 126), (42, 117), (43, 141), (44, 132), (47, 119), (58, 123), (60, 144), (63, 129), (64, 121), (84, 115), (85, 115), (91, 135), (93, 138)], 115) := by decide +kernel
theorem dX3_opOf_116 : decode cX3_opOf 116 = .ok (.iconst 2, 1) := by decide +kernel
theorem dX3_opOf_117 : decode cX3_opOf 117 = .ok (.ireturn, 1) := by decide +kernel
theorem dX3_opOf_118 : decode cX3_opOf 118 = .ok (.iconst 3, 1) := by decide +kernel
theorem dX3_opOf_119 : decode cX3_opOf 119 = .ok (.ireturn, 1) := by decide +kernel
theorem dX3_opOf_120 : decode cX3_opOf 120 = .ok (.iconst 4, 1) := by decide +kernel
theorem dX3_opOf_121 : decode cX3_opOf 121 = .ok (.ireturn, 1) := by decide +kernel
theorem dX3_opOf_122 : decode cX3_opOf 122 = .ok (.iconst 5, 1) := by decide +kernel
theorem dX3_opOf_123 : decode cX3_opOf 123 = .ok (.ireturn, 1) := by decide +kernel
theorem dX3_opOf_124 : decode cX3_opOf 124 = .ok (.bipush 6, 2) := by decide +kernel
theorem dX3_opOf_126 : decode cX3_opOf 126 = .ok (.ireturn, 1) := by decide +kernel
theorem dX3_opOf_127 : decode cX3_opOf 127 = .ok (.bipush 7, 2) := by decide +kernel
theorem dX3_opOf_129 : decode cX3_opOf 129 = .ok (.ireturn, 1) := by decide +kernel
theorem dX3_opOf_130 : decode cX3_opOf 130 = .ok (.bipush 8, 2) := by decide +kernel
theorem dX3_opOf_132 : decode cX3_opOf 132 = .ok (.ireturn, 1) := by decide +kernel
theorem dX3_opOf_133 : decode cX3_opOf 133 = .ok (.bipush 9, 2) := by decide +kernel
theorem dX3_opOf_135 : decode cX3_opOf 135 = .ok (.ireturn, 1) := by decide +kernel
theorem dX3_opOf_136 : decode cX3_opOf 136 = .ok (.bipush 10, 2) := by decide +kernel
theorem dX3_opOf_138 : decode cX3_opOf 138 = .ok (.ireturn, 1) := by decide +kernel
theorem dX3_opOf_139 : decode cX3_opOf 139 = .ok (.bipush 11, 2) := by decide +kernel
theorem dX3_opOf_141 : decode cX3_opOf 141 = .ok (.ireturn, 1) := by decide +kernel
theorem dX3_opOf_142 : decode cX3_opOf 142 = .ok (.bipush 12, 2) := by decide +kernel
theorem dX3_opOf_144 : decode cX3_opOf 144 = .ok (.ireturn, 1) := by decide +kernel
theorem dX3_opOf_145 : decode cX3_opOf 145 = .ok (.bipush 13, 2) := by decide +kernel
theorem dX3_opOf_147 : decode cX3_opOf 147 = .ok (.ireturn, 1) := by decide +kernel
theorem dX3_opOf_148 : decode cX3_opOf 148 = .ok (.iload_n 0, 1) := by decide +kernel
theorem dX3_opOf_149 : decode cX3_opOf 149 = .ok (.invokestatic 75, 3) := by decide +kernel
theorem dX3_opOf_152 : decode cX3_opOf 152 = .ok (.ifCond .eq 5, 3) := by decide +kernel
theorem dX3_opOf_155 : decode cX3_opOf 155 = .ok (.iconst 1, 1) := by decide +kernel
theorem dX3_opOf_156 : decode cX3_opOf 156 = .ok (.ireturn, 1) := by decide +kernel
theorem dX3_opOf_157 : decode cX3_opOf 157 = .ok (.iload_n 0, 1) := by decide +kernel
theorem dX3_opOf_158 : decode cX3_opOf 158 = .ok (.invokestatic 79, 3) := by decide +kernel
theorem dX3_opOf_161 : decode cX3_opOf 161 = .ok (.ifCond .eq 7, 3) := by decide +kernel
theorem dX3_opOf_164 : decode cX3_opOf 164 = .ok (.iconst 0, 1) := by decide +kernel
theorem dX3_opOf_165 : decode cX3_opOf 165 = .ok (.goto 4, 3) := by decide +kernel
theorem dX3_opOf_168 : decode cX3_opOf 168 = .ok (.iconst (-1), 1) := by decide +kernel
theorem dX3_opOf_169 : decode cX3_opOf 169 = .ok (.ireturn, 1) := by decide +kernel
theorem eX3_opOf_0 : am_lim call mX3_opOf 0 [some (.int x)] (S) σ = am_lim call mX3_opOf 1 [some (.int x)] (.int x :: S) σ := r_iload_n dX3_opOf_0 rfl
theorem eX3_opOf_1_38 : am_lim call mX3_opOf 1 [l0] (.int 38 :: S) σ = am_lim call mX3_opOf 127 [l0] (S) σ := r_lkK (off := 126) 127 dX3_opOf_1 (by decide) (by decide) (by decide)
theorem eX3_opOf_1_42 : am_lim call mX3_opOf 1 [l0] (.int 42 :: S) σ = am_lim call mX3_opOf 118 [l0] (S) σ := r_lkK (off := 117) 118 dX3_opOf_1 (by decide) (by decide) (by decide)
theorem eX3_opOf_1_43 : am_lim call mX3_opOf 1 [l0] (.int 43 :: S) σ = am_lim call mX3_opOf 142 [l0] (S) σ := r_lkK (off := 141) 142 dX3_opOf_1 (by decide) (by decide) (by decide)
theorem eX3_opOf_1_44 : am_lim call mX3_opOf 1 [l0] (.int 44 :: S) σ = am_lim call mX3_opOf 133 [l0] (S) σ := r_lkK (off := 132) 133 dX3_opOf_1 (by decide) (by decide) (by decide)
theorem eX3_opOf_1_47 : am_lim call mX3_opOf 1 [l0] (.int 47 :: S) σ = am_lim call mX3_opOf 120 [l0] (S) σ := r_lkK (off := 119) 120 dX3_opOf_1 (by decide) (by decide) (by decide)
theorem eX3_opOf_1_58 : am_lim call mX3_opOf 1 [l0] (.int 58 :: S) σ = am_lim call mX3_opOf 124 [l0] (S) σ := r_lkK (off := 123) 124 dX3_opOf_1 (by decide) (by decide) (by decide)
theorem eX3_opOf_1_60 : am_lim call mX3_opOf 1 [l0] (.int 60 :: S) σ = am_lim call mX3_opOf 145 [l0] (S) σ := r_lkK (off := 144) 145 dX3_opOf_1 (by decide) (by decide) (by decide)
theorem eX3_opOf_1_63 : am_lim call mX3_opOf 1 [l0] (.int 63 :: S) σ = am_lim call mX3_opOf 130 [l0] (S) σ := r_lkK (off := 129) 130 dX3_opOf_1 (by decide) (by decide) (by decide)
theorem eX3_opOf_1_64 : am_lim call mX3_opOf 1 [l0] (.int 64 :: S) σ = am_lim call mX3_opOf 122 [l0] (S) σ := r_lkK (off := 121) 122 dX3_opOf_1 (by decide) (by decide) (by decide)
theorem eX3_opOf_1_84 : am_lim call mX3_opOf 1 [l0] (.int 84 :: S) σ = am_lim call mX3_opOf 116 [l0] (S) σ := r_lkK (off := 115) 116 dX3_opOf_1 (by decide) (by decide) (by decide)
theorem eX3_opOf_1_85 : am_lim call mX3_opOf 1 [l0] (.int 85 :: S) σ = am_lim call mX3_opOf 116 [l0] (S) σ := r_lkK (off := 115) 116 dX3_opOf_1 (by decide) (by decide) (by decide)
theorem eX3_opOf_1_91 : am_lim call mX3_opOf 1 [l0] (.int 91 :: S) σ = am_lim call mX3_opOf 136 [l0] (S) σ := r_lkK (off := 135) 136 dX3_opOf_1 (by decide) (by decide) (by decide)
theorem eX3_opOf_1_93 : am_lim call mX3_opOf 1 [l0] (.int 93 :: S) σ = am_lim call mX3_opOf 139 [l0] (S) σ := r_lkK (off := 138) 139 dX3_opOf_1 (by decide) (by decide) (by decide)
theorem eX3_opOf_1_d (h : Op.lookupswitch.offset [(38, 126), (42, 117), (43, 141), (44, 132), (47, 119), (58, 123), (60, 144), (63, 129), (64, 121), (84, 115), (85, 115), (91, 135), (93, 138)] 147 x.toInt = 147) : am_lim call mX3_opOf 1 [l0] (.int x :: S) σ = am_lim call mX3_opOf 148 [l0] (S) σ := r_lkD 148 dX3_opOf_1 (by decide) h (by decide)
theorem eX3_opOf_148 : am_lim call mX3_opOf 148 [some (.int x)] (S) σ = am_lim call mX3_opOf 149 [some (.int x)] (.int x :: S) σ := r_iload_n dX3_opOf_148 rfl
theorem eX3_opOf_149 : am_lim call mX3_opOf 149 [l0] (.int v0 :: []) σ = am_k (call mX3_isDigit [.int v0] σ) (fun r σ1 => am_lim call mX3_opOf 152 [l0] (r.toList ++ []) σ1) := r_kS (S1 := [.int v0]) dX3_opOf_149 ⟨rfl, rfl, rfl⟩ mt_3_75 rfl (Nat.le_of_ble_eq_true rfl)
theorem eX3_opOf_152 : am_lim call mX3_opOf 152 [l0] (.int x :: S) σ = if x = 0 then am_lim call mX3_opOf 157 [l0] (S) σ else am_lim call mX3_opOf 155 [l0] (S) σ := r_ifB 157 dX3_opOf_152 (by decide) rfl
theorem eX3_opOf_155 : am_lim call mX3_opOf 155 [l0] (S) σ = am_lim call mX3_opOf 156 [l0] (.int 1 :: S) σ := r_iconst dX3_opOf_155 (by decide)
theorem eX3_opOf_156 : am_lim call mX3_opOf 156 [l0] ([.int x]) σ = some (some (.int x), σ) := r_retI dX3_opOf_156 rfl
theorem eX3_opOf_157 : am_lim call mX3_opOf 157 [some (.int x)] (S) σ = am_lim call mX3_opOf 158 [some (.int x)] (.int x :: S) σ := r_iload_n dX3_opOf_157 rfl
theorem eX3_opOf_158 : am_lim call mX3_opOf 158 [l0] (.int v0 :: []) σ = am_k (call mX3_isLetter [.int v0] σ) (fun r σ1 => am_lim call mX3_opOf 161 [l0] (r.toList ++ []) σ1) := r_kS (S1 := [.int v0]) dX3_opOf_158 ⟨rfl, rfl, rfl⟩ mt_3_79 rfl (Nat.le_of_ble_eq_true rfl)
theorem eX3_opOf_161 : am_lim call mX3_opOf 161 [l0] (.int x :: S) σ = if x = 0 then am_lim call mX3_opOf 168 [l0] (S) σ else am_lim call mX3_opOf 164 [l0] (S) σ := r_ifB 168 dX3_opOf_161 (by decide) rfl
theorem eX3_opOf_164 : am_lim call mX3_opOf 164 [l0] (S) σ = am_lim call mX3_opOf 165 [l0] (.int 0 :: S) σ := r_iconst dX3_opOf_164 (by decide)
theorem eX3_opOf_165 : am_lim call mX3_opOf 165 [l0] (S) σ = am_lim call mX3_opOf 169 [l0] (S) σ := r_goto 169 dX3_opOf_165 (by decide)
theorem eX3_opOf_169 : am_lim call mX3_opOf 169 [l0] ([.int x]) σ = some (some (.int x), σ) := r_retI dX3_opOf_169 rfl
theorem eX3_opOf_168 : am_lim call mX3_opOf 168 [l0] (S) σ = am_lim call mX3_opOf 169 [l0] (.int (-1) :: S) σ := r_iconst dX3_opOf_168 (by decide)
theorem eX3_opOf_139 : am_lim call mX3_opOf 139 [l0] (S) σ = am_lim call mX3_opOf 141 [l0] (.int 11 :: S) σ := r_bipush dX3_opOf_139 (by decide)
theorem eX3_opOf_141 : am_lim call mX3_opOf 141 [l0] ([.int x]) σ = some (some (.int x), σ) := r_retI dX3_opOf_141 rfl
theorem eX3_opOf_136 : am_lim call mX3_opOf 136 [l0] (S) σ = am_lim call mX3_opOf 138 [l0] (.int 10 :: S) σ := r_bipush dX3_opOf_136 (by decide)
theorem eX3_opOf_138 : am_lim call mX3_opOf 138 [l0] ([.int x]) σ = some (some (.int x), σ) := r_retI dX3_opOf_138 rfl
theorem eX3_opOf_116 : am_lim call mX3_opOf 116 [l0] (S) σ = am_lim call mX3_opOf 117 [l0] (.int 2 :: S) σ := r_iconst dX3_opOf_116 (by decide)
theorem eX3_opOf_117 : am_lim call mX3_opOf 117 [l0] ([.int x]) σ = some (some (.int x), σ) := r_retI dX3_opOf_117 rfl
theorem eX3_opOf_122 : am_lim call mX3_opOf 122 [l0] (S) σ = am_lim call mX3_opOf 123 [l0] (.int 5 :: S) σ := r_iconst dX3_opOf_122 (by decide)
theorem eX3_opOf_123 : am_lim call mX3_opOf 123 [l0] ([.int x]) σ = some (some (.int x), σ) := r_retI dX3_opOf_123 rfl
theorem eX3_opOf_130 : am_lim call mX3_opOf 130 [l0] (S) σ = am_lim call mX3_opOf 132 [l0] (.int 8 :: S) σ := r_bipush dX3_opOf_130 (by decide)
theorem eX3_opOf_132 : am_lim call mX3_opOf 132 [l0] ([.int x]) σ = some (some (.int x), σ) := r_retI dX3_opOf_132 rfl
theorem eX3_opOf_145 : am_lim call mX3_opOf 145 [l0] (S) σ = am_lim call mX3_opOf 147 [l0] (.int 13 :: S) σ := r_bipush dX3_opOf_145 (by decide)
theorem eX3_opOf_147 : am_lim call mX3_opOf 147 [l0] ([.int x]) σ = some (some (.int x), σ) := r_retI dX3_opOf_147 rfl
theorem eX3_opOf_124 : am_lim call mX3_opOf 124 [l0] (S) σ = am_lim call mX3_opOf 126 [l0] (.int 6 :: S) σ := r_bipush dX3_opOf_124 (by decide)
theorem eX3_opOf_126 : am_lim call mX3_opOf 126 [l0] ([.int x]) σ = some (some (.int x), σ) := r_retI dX3_opOf_126 rfl
theorem eX3_opOf_120 : am_lim call mX3_opOf 120 [l0] (S) σ = am_lim call mX3_opOf 121 [l0] (.int 4 :: S) σ := r_iconst dX3_opOf_120 (by decide)
theorem eX3_opOf_121 : am_lim call mX3_opOf 121 [l0] ([.int x]) σ = some (some (.int x), σ) := r_retI dX3_opOf_121 rfl
theorem eX3_opOf_133 : am_lim call mX3_opOf 133 [l0] (S) σ = am_lim call mX3_opOf 135 [l0] (.int 9 :: S) σ := r_bipush dX3_opOf_133 (by decide)
theorem eX3_opOf_135 : am_lim call mX3_opOf 135 [l0] ([.int x]) σ = some (some (.int x), σ) := r_retI dX3_opOf_135 rfl
theorem eX3_opOf_142 : am_lim call mX3_opOf 142 [l0] (S) σ = am_lim call mX3_opOf 144 [l0] (.int 12 :: S) σ := r_bipush dX3_opOf_142 (by decide)
theorem eX3_opOf_144 : am_lim call mX3_opOf 144 [l0] ([.int x]) σ = some (some (.int x), σ) := r_retI dX3_opOf_144 rfl
theorem eX3_opOf_118 : am_lim call mX3_opOf 118 [l0] (S) σ = am_lim call mX3_opOf 119 [l0] (.int 3 :: S) σ := r_iconst dX3_opOf_118 (by decide)
theorem eX3_opOf_119 : am_lim call mX3_opOf 119 [l0] ([.int x]) σ = some (some (.int x), σ) := r_retI dX3_opOf_119 rfl
theorem eX3_opOf_127 : am_lim call mX3_opOf 127 [l0] (S) σ = am_lim call mX3_opOf 129 [l0] (.int 7 :: S) σ := r_bipush dX3_opOf_127 (by decide)
theorem eX3_opOf_129 : am_lim call mX3_opOf 129 [l0] ([.int x]) σ = some (some (.int x), σ) := r_retI dX3_opOf_129 rfl
theorem nX3_opOf {d : Nat} : am_run (d + 1) mX3_opOf [.int v0] σ = am_lim (am_run d) mX3_opOf 0 [some (.int v0)] [] σ := am_run_S rfl rfl rfl rfl
theorem dX3_isDigit_0 : decode cX3_isDigit 0 = .ok (.iload_n 0, 1) := by decide +kernel
theorem dX3_isDigit_1 : decode cX3_isDigit 1 = .ok (.bipush 48, 2) := by decide +kernel
theorem dX3_isDigit_3 : decode cX3_isDigit 3 = .ok (.if_icmp .lt 13, 3) := by decide +kernel
theorem dX3_isDigit_6 : decode cX3_isDigit 6 = .ok (.iload_n 0, 1) := by decide +kernel
theorem dX3_isDigit_7 : decode cX3_isDigit 7 = .ok (.bipush 57, 2) := by decide +kernel
theorem dX3_isDigit_9 : decode cX3_isDigit 9 = .ok (.if_icmp .gt 7, 3) := by decide +kernel
theorem dX3_isDigit_12 : decode cX3_isDigit 12 = .ok (.iconst 1, 1) := by decide +kernel
theorem dX3_isDigit_13 : decode cX3_isDigit 13 = .ok (.goto 4, 3) := by decide +kernel
theorem dX3_isDigit_16 : decode cX3_isDigit 16 = .ok (.iconst 0, 1) := by decide +kernel
theorem dX3_isDigit_17 : decode cX3_isDigit 17 = .ok (.ireturn, 1) := by decide +kernel
theorem eX3_isDigit_0 : am_lim call mX3_isDigit 0 [some (.int x)] (S) σ = am_lim call mX3_isDigit 1 [some (.int x)] (.int x :: S) σ := r_iload_n dX3_isDigit_0 rfl
theorem eX3_isDigit_1 : am_lim call mX3_isDigit 1 [l0] (S) σ = am_lim call mX3_isDigit 3 [l0] (.int 48 :: S) σ := r_bipush dX3_isDigit_1 (by decide)
theorem eX3_isDigit_3 : am_lim call mX3_isDigit 3 [l0] (.int y :: .int x :: S) σ = if x < y then am_lim call mX3_isDigit 16 [l0] (S) σ else am_lim call mX3_isDigit 6 [l0] (S) σ := r_icmpB 16 dX3_isDigit_3 (by decide) rfl
theorem eX3_isDigit_6 : am_lim call mX3_isDigit 6 [some (.int x)] (S) σ = am_lim call mX3_isDigit 7 [some (.int x)] (.int x :: S) σ := r_iload_n dX3_isDigit_6 rfl
theorem eX3_isDigit_7 : am_lim call mX3_isDigit 7 [l0] (S) σ = am_lim call mX3_isDigit 9 [l0] (.int 57 :: S) σ := r_bipush dX3_isDigit_7 (by decide)
theorem eX3_isDigit_9 : am_lim call mX3_isDigit 9 [l0] (.int y :: .int x :: S) σ = if y < x then am_lim call mX3_isDigit 16 [l0] (S) σ else am_lim call mX3_isDigit 12 [l0] (S) σ := r_icmpB 16 dX3_isDigit_9 (by decide) rfl
theorem eX3_isDigit_12 : am_lim call mX3_isDigit 12 [l0] (S) σ = am_lim call mX3_isDigit 13 [l0] (.int 1 :: S) σ := r_iconst dX3_isDigit_12 (by decide)
theorem eX3_isDigit_13 : am_lim call mX3_isDigit 13 [l0] (S) σ = am_lim call mX3_isDigit 17 [l0] (S) σ := r_goto 17 dX3_isDigit_13 (by decide)
theorem eX3_isDigit_17 (hx : x = 0 ∨ x = 1) : am_lim call mX3_isDigit 17 [l0] ([.int x]) σ = some (some (.int x), σ) := r_retZ dX3_isDigit_17 rfl hx
theorem eX3_isDigit_16 : am_lim call mX3_isDigit 16 [l0] (S) σ = am_lim call mX3_isDigit 17 [l0] (.int 0 :: S) σ := r_iconst dX3_isDigit_16 (by decide)
theorem nX3_isDigit {d : Nat} : am_run (d + 1) mX3_isDigit [.int v0] σ = am_lim (am_run d) mX3_isDigit 0 [some (.int v0)] [] σ := am_run_S rfl rfl rfl rfl
theorem dX3_isLetter_0 : decode cX3_isLetter 0 = .ok (.iload_n 0, 1) := by decide +kernel
theorem dX3_isLetter_1 : decode cX3_isLetter 1 = .ok (.bipush 97, 2) := by decide +kernel
theorem dX3_isLetter_3 : decode cX3_isLetter 3 = .ok (.if_icmp .lt 13, 3) := by decide +kernel
theorem dX3_isLetter_6 : decode cX3_isLetter 6 = .ok (.iload_n 0, 1) := by decide +kernel
theorem dX3_isLetter_7 : decode cX3_isLetter 7 = .ok (.bipush 122, 2) := by decide +kernel
theorem dX3_isLetter_9 : decode cX3_isLetter 9 = .ok (.if_icmp .gt 7, 3) := by decide +kernel
theorem dX3_isLetter_12 : decode cX3_isLetter 12 = .ok (.iconst 1, 1) := by decide +kernel
theorem dX3_isLetter_13 : decode cX3_isLetter 13 = .ok (.goto 4, 3) := by decide +kernel
theorem dX3_isLetter_16 : decode cX3_isLetter 16 = .ok (.iconst 0, 1) := by decide +kernel
theorem dX3_isLetter_17 : decode cX3_isLetter 17 = .ok (.ireturn, 1) := by decide +kernel
theorem eX3_isLetter_0 : am_lim call mX3_isLetter 0 [some (.int x)] (S) σ = am_lim call mX3_isLetter 1 [some (.int x)] (.int x :: S) σ := r_iload_n dX3_isLetter_0 rfl
theorem eX3_isLetter_1 : am_lim call mX3_isLetter 1 [l0] (S) σ = am_lim call mX3_isLetter 3 [l0] (.int 97 :: S) σ := r_bipush dX3_isLetter_1 (by decide)
theorem eX3_isLetter_3 : am_lim call mX3_isLetter 3 [l0] (.int y :: .int x :: S) σ = if x < y then am_lim call mX3_isLetter 16 [l0] (S) σ else am_lim call mX3_isLetter 6 [l0] (S) σ := r_icmpB 16 dX3_isLetter_3 (by decide) rfl
theorem eX3_isLetter_6 : am_lim call mX3_isLetter 6 [some (.int x)] (S) σ = am_lim call mX3_isLetter 7 [some (.int x)] (.int x :: S) σ := r_iload_n dX3_isLetter_6 rfl
theorem eX3_isLetter_7 : am_lim call mX3_isLetter 7 [l0] (S) σ = am_lim call mX3_isLetter 9 [l0] (.int 122 :: S) σ := r_bipush dX3_isLetter_7 (by decide)
theorem eX3_isLetter_9 : am_lim call mX3_isLetter 9 [l0] (.int y :: .int x :: S) σ = if y < x then am_lim call mX3_isLetter 16 [l0] (S) σ else am_lim call mX3_isLetter 12 [l0] (S) σ := r_icmpB 16 dX3_isLetter_9 (by decide) rfl
theorem eX3_isLetter_12 : am_lim call mX3_isLetter 12 [l0] (S) σ = am_lim call mX3_isLetter 13 [l0] (.int 1 :: S) σ := r_iconst dX3_isLetter_12 (by decide)
theorem eX3_isLetter_13 : am_lim call mX3_isLetter 13 [l0] (S) σ = am_lim call mX3_isLetter 17 [l0] (S) σ := r_goto 17 dX3_isLetter_13 (by decide)
theorem eX3_isLetter_17 (hx : x = 0 ∨ x = 1) : am_lim call mX3_isLetter 17 [l0] ([.int x]) σ = some (some (.int x), σ) := r_retZ dX3_isLetter_17 rfl hx
theorem eX3_isLetter_16 : am_lim call mX3_isLetter 16 [l0] (S) σ = am_lim call mX3_isLetter 17 [l0] (.int 0 :: S) σ := r_iconst dX3_isLetter_16 (by decide)
theorem nX3_isLetter {d : Nat} : am_run (d + 1) mX3_isLetter [.int v0] σ = am_lim (am_run d) mX3_isLetter 0 [some (.int v0)] [] σ := am_run_S rfl rfl rfl rfl
theorem dX3_refuse_0 : decode cX3_refuse 0 = .ok (.aload_n 0, 1) := by decide +kernel
theorem dX3_refuse_1 : decode cX3_refuse 1 = .ok (.getfield 37, 3) := by decide +kernel
theorem dX3_refuse_4 : decode cX3_refuse 4 = .ok (.iconst (-1), 1) := by decide +kernel
theorem dX3_refuse_5 : decode cX3_refuse 5 = .ok (.if_icmp .ne 11, 3) := by decide +kernel
theorem dX3_refuse_8 : decode cX3_refuse 8 = .ok (.aload_n 0, 1) := by decide +kernel
theorem dX3_refuse_9 : decode cX3_refuse 9 = .ok (.aload_n 0, 1) := by decide +kernel
theorem dX3_refuse_10 : decode cX3_refuse 10 = .ok (.getfield 34, 3) := by decide +kernel
theorem dX3_refuse_13 : decode cX3_refuse 13 = .ok (.putfield 37, 3) := by decide +kernel
theorem dX3_refuse_16 : decode cX3_refuse 16 = .ok (.return_, 1) := by decide +kernel
theorem eX3_refuse_0 : am_lim call mX3_refuse 0 [some (.ref a)] (S) σ = am_lim call mX3_refuse 1 [some (.ref a)] (.ref a :: S) σ := r_aload_n dX3_refuse_0 rfl
theorem eX3_refuse_1 (h : g_o σ a 3) : am_lim call mX3_refuse 1 [l0] (.ref a :: S) σ = am_lim call mX3_refuse 4 [l0] (.int (g_I σ a 6) :: S) σ := r_getI dX3_refuse_1 f_3_37 rfl h
theorem eX3_refuse_4 : am_lim call mX3_refuse 4 [l0] (S) σ = am_lim call mX3_refuse 5 [l0] (.int (-1) :: S) σ := r_iconst dX3_refuse_4 (by decide)
theorem eX3_refuse_5 : am_lim call mX3_refuse 5 [l0] (.int y :: .int x :: S) σ = if x ≠ y then am_lim call mX3_refuse 16 [l0] (S) σ else am_lim call mX3_refuse 8 [l0] (S) σ := r_icmpB 16 dX3_refuse_5 (by decide) rfl
theorem eX3_refuse_8 : am_lim call mX3_refuse 8 [some (.ref a)] (S) σ = am_lim call mX3_refuse 9 [some (.ref a)] (.ref a :: S) σ := r_aload_n dX3_refuse_8 rfl
theorem eX3_refuse_9 : am_lim call mX3_refuse 9 [some (.ref a)] (S) σ = am_lim call mX3_refuse 10 [some (.ref a)] (.ref a :: S) σ := r_aload_n dX3_refuse_9 rfl
theorem eX3_refuse_10 (h : g_o σ a 3) : am_lim call mX3_refuse 10 [l0] (.ref a :: S) σ = am_lim call mX3_refuse 13 [l0] (.int (g_I σ a 5) :: S) σ := r_getI dX3_refuse_10 f_3_34 rfl h
theorem eX3_refuse_13 (h : g_o σ a 3) : am_lim call mX3_refuse 13 [l0] (.int x :: .ref a :: S) σ = am_lim call mX3_refuse 16 [l0] (S) (am_sI σ a 6 x) := r_putI dX3_refuse_13 f_3_37 rfl rfl h
theorem eX3_refuse_16 : am_lim call mX3_refuse 16 [l0] ([]) σ = some (none, σ) := r_retV dX3_refuse_16 rfl
theorem nX3_refuse {d : Nat} : am_run (d + 1) mX3_refuse [.ref b] σ = am_lim (am_run d) mX3_refuse 0 [some (.ref b)] [] σ := am_run_S rfl rfl rfl rfl
theorem dX3_readEnd_0 : decode cX3_readEnd 0 = .ok (.aload_n 0, 1) := by decide +kernel
theorem dX3_readEnd_1 : decode cX3_readEnd 1 = .ok (.getfield 37, 3) := by decide +kernel
theorem dX3_readEnd_4 : decode cX3_readEnd 4 = .ok (.iconst (-1), 1) := by decide +kernel
theorem dX3_readEnd_5 : decode cX3_readEnd 5 = .ok (.if_icmp .ne 15, 3) := by decide +kernel
theorem dX3_readEnd_8 : decode cX3_readEnd 8 = .ok (.aload_n 0, 1) := by decide +kernel
theorem dX3_readEnd_9 : decode cX3_readEnd 9 = .ok (.invokevirtual 68, 3) := by decide +kernel
theorem dX3_readEnd_12 : decode cX3_readEnd 12 = .ok (.iconst (-1), 1) := by decide +kernel
theorem dX3_readEnd_13 : decode cX3_readEnd 13 = .ok (.if_icmp .eq 7, 3) := by decide +kernel
theorem dX3_readEnd_16 : decode cX3_readEnd 16 = .ok (.aload_n 0, 1) := by decide +kernel
theorem dX3_readEnd_17 : decode cX3_readEnd 17 = .ok (.invokevirtual 72, 3) := by decide +kernel
theorem dX3_readEnd_20 : decode cX3_readEnd 20 = .ok (.return_, 1) := by decide +kernel
theorem eX3_readEnd_0 : am_lim call mX3_readEnd 0 [some (.ref a)] (S) σ = am_lim call mX3_readEnd 1 [some (.ref a)] (.ref a :: S) σ := r_aload_n dX3_readEnd_0 rfl
theorem eX3_readEnd_1 (h : g_o σ a 3) : am_lim call mX3_readEnd 1 [l0] (.ref a :: S) σ = am_lim call mX3_readEnd 4 [l0] (.int (g_I σ a 6) :: S) σ := r_getI dX3_readEnd_1 f_3_37 rfl h
theorem eX3_readEnd_4 : am_lim call mX3_readEnd 4 [l0] (S) σ = am_lim call mX3_readEnd 5 [l0] (.int (-1) :: S) σ := r_iconst dX3_readEnd_4 (by decide)
theorem eX3_readEnd_5 : am_lim call mX3_readEnd 5 [l0] (.int y :: .int x :: S) σ = if x ≠ y then am_lim call mX3_readEnd 20 [l0] (S) σ else am_lim call mX3_readEnd 8 [l0] (S) σ := r_icmpB 20 dX3_readEnd_5 (by decide) rfl
theorem eX3_readEnd_8 : am_lim call mX3_readEnd 8 [some (.ref a)] (S) σ = am_lim call mX3_readEnd 9 [some (.ref a)] (.ref a :: S) σ := r_aload_n dX3_readEnd_8 rfl
theorem eX3_readEnd_9 (h : g_o σ b 3) : am_lim call mX3_readEnd 9 [l0] (.ref b :: []) σ = am_k (call mX3_nextSign [.ref b] σ) (fun r σ1 => am_lim call mX3_readEnd 12 [l0] (r.toList ++ []) σ1) := r_kV (S1 := []) dX3_readEnd_9 mt_3_68 rfl h (Nat.le_of_ble_eq_true rfl)
theorem eX3_readEnd_12 : am_lim call mX3_readEnd 12 [l0] (S) σ = am_lim call mX3_readEnd 13 [l0] (.int (-1) :: S) σ := r_iconst dX3_readEnd_12 (by decide)
theorem eX3_readEnd_13 : am_lim call mX3_readEnd 13 [l0] (.int y :: .int x :: S) σ = if x = y then am_lim call mX3_readEnd 20 [l0] (S) σ else am_lim call mX3_readEnd 16 [l0] (S) σ := r_icmpB 20 dX3_readEnd_13 (by decide) rfl
theorem eX3_readEnd_16 : am_lim call mX3_readEnd 16 [some (.ref a)] (S) σ = am_lim call mX3_readEnd 17 [some (.ref a)] (.ref a :: S) σ := r_aload_n dX3_readEnd_16 rfl
theorem eX3_readEnd_17 (h : g_o σ b 3) : am_lim call mX3_readEnd 17 [l0] (.ref b :: []) σ = am_k (call mX3_refuse [.ref b] σ) (fun r σ1 => am_lim call mX3_readEnd 20 [l0] (r.toList ++ []) σ1) := r_kV (S1 := []) dX3_readEnd_17 mt_3_72 rfl h (Nat.le_of_ble_eq_true rfl)
theorem eX3_readEnd_20 : am_lim call mX3_readEnd 20 [l0] ([]) σ = some (none, σ) := r_retV dX3_readEnd_20 rfl
theorem nX3_readEnd {d : Nat} : am_run (d + 1) mX3_readEnd [.ref b] σ = am_lim (am_run d) mX3_readEnd 0 [some (.ref b)] [] σ := am_run_S rfl rfl rfl rfl
theorem dX7_clear_0 : decode cX7_clear 0 = .ok (.aload_n 0, 1) := by decide +kernel
theorem dX7_clear_1 : decode cX7_clear 1 = .ok (.iconst 0, 1) := by decide +kernel
theorem dX7_clear_2 : decode cX7_clear 2 = .ok (.putfield 38, 3) := by decide +kernel
theorem dX7_clear_5 : decode cX7_clear 5 = .ok (.aload_n 0, 1) := by decide +kernel
theorem dX7_clear_6 : decode cX7_clear 6 = .ok (.getfield 34, 3) := by decide +kernel
theorem dX7_clear_9 : decode cX7_clear 9 = .ok (.invokevirtual 48, 3) := by decide +kernel
theorem dX7_clear_12 : decode cX7_clear 12 = .ok (.aload_n 0, 1) := by decide +kernel
theorem dX7_clear_13 : decode cX7_clear 13 = .ok (.invokevirtual 51, 3) := by decide +kernel
theorem dX7_clear_16 : decode cX7_clear 16 = .ok (.return_, 1) := by decide +kernel
theorem eX7_clear_0 : am_lim call mX7_clear 0 [some (.ref a)] (S) σ = am_lim call mX7_clear 1 [some (.ref a)] (.ref a :: S) σ := r_aload_n dX7_clear_0 rfl
theorem eX7_clear_1 : am_lim call mX7_clear 1 [l0] (S) σ = am_lim call mX7_clear 2 [l0] (.int 0 :: S) σ := r_iconst dX7_clear_1 (by decide)
theorem eX7_clear_2 (h : g_o σ a 7) : am_lim call mX7_clear 2 [l0] (.int x :: .ref a :: S) σ = am_lim call mX7_clear 5 [l0] (S) (am_sI σ a 0 x) := r_putI dX7_clear_2 f_7_38 rfl rfl h
theorem eX7_clear_5 : am_lim call mX7_clear 5 [some (.ref a)] (S) σ = am_lim call mX7_clear 6 [some (.ref a)] (.ref a :: S) σ := r_aload_n dX7_clear_5 rfl
theorem eX7_clear_6 (h : g_o σ a 7) : am_lim call mX7_clear 6 [l0] (.ref a :: S) σ = am_lim call mX7_clear 9 [l0] (va_rf (g_R σ a 1) :: S) σ := r_getR dX7_clear_6 f_7_34 rfl h
theorem eX7_clear_9 (h : g_o σ b 4) : am_lim call mX7_clear 9 [l0] (.ref b :: []) σ = am_k (call mX4_clear [.ref b] σ) (fun r σ1 => am_lim call mX7_clear 12 [l0] (r.toList ++ []) σ1) := r_kV (S1 := []) dX7_clear_9 mt_7_48 rfl h (Nat.le_of_ble_eq_true rfl)
theorem eX7_clear_12 : am_lim call mX7_clear 12 [some (.ref a)] (S) σ = am_lim call mX7_clear 13 [some (.ref a)] (.ref a :: S) σ := r_aload_n dX7_clear_12 rfl
theorem eX7_clear_13 (h : g_o σ b 7) : am_lim call mX7_clear 13 [l0] (.ref b :: []) σ = am_k (call mX7_unwrap [.ref b] σ) (fun r σ1 => am_lim call mX7_clear 16 [l0] (r.toList ++ []) σ1) := r_kV (S1 := []) dX7_clear_13 mt_7_51 rfl h (Nat.le_of_ble_eq_true rfl)
theorem eX7_clear_16 : am_lim call mX7_clear 16 [l0] ([]) σ = some (none, σ) := r_retV dX7_clear_16 rfl
theorem nX7_clear {d : Nat} : am_run (d + 1) mX7_clear [.ref b] σ = am_lim (am_run d) mX7_clear 0 [some (.ref b)] [] σ := am_run_S rfl rfl rfl rfl
theorem dX4_clear_0 : decode cX4_clear 0 = .ok (.aload_n 0, 1) := by decide +kernel
theorem dX4_clear_1 : decode cX4_clear 1 = .ok (.iconst 0, 1) := by decide +kernel
theorem dX4_clear_2 : decode cX4_clear 2 = .ok (.putfield 15, 3) := by decide +kernel
theorem dX4_clear_5 : decode cX4_clear 5 = .ok (.aload_n 0, 1) := by decide +kernel
theorem dX4_clear_6 : decode cX4_clear 6 = .ok (.iconst 0, 1) := by decide +kernel
theorem dX4_clear_7 : decode cX4_clear 7 = .ok (.putfield 19, 3) := by decide +kernel
theorem dX4_clear_10 : decode cX4_clear 10 = .ok (.return_, 1) := by decide +kernel
theorem eX4_clear_0 : am_lim call mX4_clear 0 [some (.ref a)] (S) σ = am_lim call mX4_clear 1 [some (.ref a)] (.ref a :: S) σ := r_aload_n dX4_clear_0 rfl
theorem eX4_clear_1 : am_lim call mX4_clear 1 [l0] (S) σ = am_lim call mX4_clear 2 [l0] (.int 0 :: S) σ := r_iconst dX4_clear_1 (by decide)
theorem eX4_clear_2 (h : g_o σ a 4) : am_lim call mX4_clear 2 [l0] (.int x :: .ref a :: S) σ = am_lim call mX4_clear 5 [l0] (S) (am_sI σ a 1 x) := r_putI dX4_clear_2 f_4_15 rfl rfl h
theorem eX4_clear_5 : am_lim call mX4_clear 5 [some (.ref a)] (S) σ = am_lim call mX4_clear 6 [some (.ref a)] (.ref a :: S) σ := r_aload_n dX4_clear_5 rfl
theorem eX4_clear_6 : am_lim call mX4_clear 6 [l0] (S) σ = am_lim call mX4_clear 7 [l0] (.int 0 :: S) σ := r_iconst dX4_clear_6 (by decide)
theorem eX4_clear_7 (h : g_o σ a 4) (hx : x = 0 ∨ x = 1) : am_lim call mX4_clear 7 [l0] (.int x :: .ref a :: S) σ = am_lim call mX4_clear 10 [l0] (S) (am_sI σ a 2 x) := r_putZ dX4_clear_7 f_4_19 rfl rfl h hx
theorem eX4_clear_10 : am_lim call mX4_clear 10 [l0] ([]) σ = some (none, σ) := r_retV dX4_clear_10 rfl
theorem nX4_clear {d : Nat} : am_run (d + 1) mX4_clear [.ref b] σ = am_lim (am_run d) mX4_clear 0 [some (.ref b)] [] σ := am_run_S rfl rfl rfl rfl
theorem dX7_unwrap_0 : decode cX7_unwrap 0 = .ok (.aload_n 0, 1) := by decide +kernel
theorem dX7_unwrap_1 : decode cX7_unwrap 1 = .ok (.iconst (-1), 1) := by decide +kernel
theorem dX7_unwrap_2 : decode cX7_unwrap 2 = .ok (.putfield 42, 3) := by decide +kernel
theorem dX7_unwrap_5 : decode cX7_unwrap 5 = .ok (.aload_n 0, 1) := by decide +kernel
theorem dX7_unwrap_6 : decode cX7_unwrap 6 = .ok (.aconst_null, 1) := by decide +kernel
theorem dX7_unwrap_7 : decode cX7_unwrap 7 = .ok (.putfield 45, 3) := by decide +kernel
theorem dX7_unwrap_10 : decode cX7_unwrap 10 = .ok (.return_, 1) := by decide +kernel
theorem eX7_unwrap_0 : am_lim call mX7_unwrap 0 [some (.ref a)] (S) σ = am_lim call mX7_unwrap 1 [some (.ref a)] (.ref a :: S) σ := r_aload_n dX7_unwrap_0 rfl
theorem eX7_unwrap_1 : am_lim call mX7_unwrap 1 [l0] (S) σ = am_lim call mX7_unwrap 2 [l0] (.int (-1) :: S) σ := r_iconst dX7_unwrap_1 (by decide)
theorem eX7_unwrap_2 (h : g_o σ a 7) : am_lim call mX7_unwrap 2 [l0] (.int x :: .ref a :: S) σ = am_lim call mX7_unwrap 5 [l0] (S) (am_sI σ a 7 x) := r_putI dX7_unwrap_2 f_7_42 rfl rfl h
theorem eX7_unwrap_5 : am_lim call mX7_unwrap 5 [some (.ref a)] (S) σ = am_lim call mX7_unwrap 6 [some (.ref a)] (.ref a :: S) σ := r_aload_n dX7_unwrap_5 rfl
theorem eX7_unwrap_6 : am_lim call mX7_unwrap 6 [l0] (S) σ = am_lim call mX7_unwrap 7 [l0] (.null :: S) σ := r_null dX7_unwrap_6
theorem eX7_unwrap_7 (h : g_o σ a 7) : am_lim call mX7_unwrap 7 [l0] (.ref b :: .ref a :: S) σ = am_lim call mX7_unwrap 10 [l0] (S) (am_sR σ a 8 (some b)) := r_putR dX7_unwrap_7 f_7_45 rfl rfl h
theorem eX7_unwrap_7n (h : g_o σ a 7) : am_lim call mX7_unwrap 7 [l0] (.null :: .ref a :: S) σ = am_lim call mX7_unwrap 10 [l0] (S) (am_sR σ a 8 none) := r_putN dX7_unwrap_7 f_7_45 rfl rfl h
theorem eX7_unwrap_10 : am_lim call mX7_unwrap 10 [l0] ([]) σ = some (none, σ) := r_retV dX7_unwrap_10 rfl
theorem nX7_unwrap {d : Nat} : am_run (d + 1) mX7_unwrap [.ref b] σ = am_lim (am_run d) mX7_unwrap 0 [some (.ref b)] [] σ := am_run_S rfl rfl rfl rfl
theorem dX12_infers__0 : decode cX12_infers_ 0 = .ok (.aload_n 0, 1) := by decide +kernel
theorem dX12_infers__1 : decode cX12_infers_ 1 = .ok (.iconst 0, 1) := by decide +kernel
theorem dX12_infers__2 : decode cX12_infers_ 2 = .ok (.putfield 113, 3) := by decide +kernel
theorem dX12_infers__5 : decode cX12_infers_ 5 = .ok (.aload_n 0, 1) := by decide +kernel
theorem dX12_infers__6 : decode cX12_infers_ 6 = .ok (.invokevirtual 194, 3) := by decide +kernel
theorem dX12_infers__9 : decode cX12_infers_ 9 = .ok (.iconst (-1), 1) := by decide +kernel
theorem dX12_infers__10 : decode cX12_infers_ 10 = .ok (.if_icmp .eq 5, 3) := by decide +kernel
theorem dX12_infers__13 : decode cX12_infers_ 13 = .ok (.iconst (-1), 1) := by decide +kernel
theorem dX12_infers__14 : decode cX12_infers_ 14 = .ok (.ireturn, 1) := by decide +kernel
theorem dX12_infers__15 : decode cX12_infers_ 15 = .ok (.aload_n 0, 1) := by decide +kernel
theorem dX12_infers__16 : decode cX12_infers_ 16 = .ok (.iconst 0, 1) := by decide +kernel
theorem dX12_infers__17 : decode cX12_infers_ 17 = .ok (.putfield 116, 3) := by decide +kernel
theorem dX12_infers__20 : decode cX12_infers_ 20 = .ok (.aload_n 0, 1) := by decide +kernel
theorem dX12_infers__21 : decode cX12_infers_ 21 = .ok (.iconst 0, 1) := by decide +kernel
theorem dX12_infers__22 : decode cX12_infers_ 22 = .ok (.iconst 1, 1) := by decide +kernel
theorem dX12_infers__23 : decode cX12_infers_ 23 = .ok (.invokevirtual 438, 3) := by decide +kernel
theorem dX12_infers__26 : decode cX12_infers_ 26 = .ok (.aload_n 0, 1) := by decide +kernel
theorem dX12_infers__27 : decode cX12_infers_ 27 = .ok (.aload_n 0, 1) := by decide +kernel
theorem dX12_infers__28 : decode cX12_infers_ 28 = .ok (.getfield 160, 3) := by decide +kernel
theorem dX12_infers__31 : decode cX12_infers_ 31 = .ok (.putfield 441, 3) := by decide +kernel
theorem dX12_infers__34 : decode cX12_infers_ 34 = .ok (.aload_n 0, 1) := by decide +kernel
theorem dX12_infers__35 : decode cX12_infers_ 35 = .ok (.iconst 1, 1) := by decide +kernel
theorem dX12_infers__36 : decode cX12_infers_ 36 = .ok (.putfield 444, 3) := by decide +kernel
theorem dX12_infers__39 : decode cX12_infers_ 39 = .ok (.aload_n 0, 1) := by decide +kernel
theorem dX12_infers__40 : decode cX12_infers_ 40 = .ok (.iconst 1, 1) := by decide +kernel
theorem dX12_infers__41 : decode cX12_infers_ 41 = .ok (.putfield 447, 3) := by decide +kernel
theorem dX12_infers__44 : decode cX12_infers_ 44 = .ok (.aload_n 0, 1) := by decide +kernel
theorem dX12_infers__45 : decode cX12_infers_ 45 = .ok (.sipush 300, 3) := by decide +kernel
theorem dX12_infers__48 : decode cX12_infers_ 48 = .ok (.invokevirtual 450, 3) := by decide +kernel
theorem dX12_infers__51 : decode cX12_infers_ 51 = .ok (.istore_n 1, 1) := by decide +kernel
theorem dX12_infers__52 : decode cX12_infers_ 52 = .ok (.aload_n 0, 1) := by decide +kernel
theorem dX12_infers__53 : decode cX12_infers_ 53 = .ok (.invokevirtual 453, 3) := by decide +kernel
theorem dX12_infers__56 : decode cX12_infers_ 56 = .ok (.ireturn, 1) := by decide +kernel
theorem eX12_infers__0 : am_lim call mX12_infers_ 0 [some (.ref a), l1] (S) σ = am_lim call mX12_infers_ 1 [some (.ref a), l1] (.ref a :: S) σ := r_aload_n dX12_infers__0 rfl
theorem eX12_infers__1 : am_lim call mX12_infers_ 1 [l0, l1] (S) σ = am_lim call mX12_infers_ 2 [l0, l1] (.int 0 :: S) σ := r_iconst dX12_infers__1 (by decide)
theorem eX12_infers__2 (h : g_o σ a 12) : am_lim call mX12_infers_ 2 [l0, l1] (.int x :: .ref a :: S) σ = am_lim call mX12_infers_ 5 [l0, l1] (S) (am_sI σ a 0 x) := r_putI dX12_infers__2 f_12_113 rfl rfl h
theorem eX12_infers__5 : am_lim call mX12_infers_ 5 [some (.ref a), l1] (S) σ = am_lim call mX12_infers_ 6 [some (.ref a), l1] (.ref a :: S) σ := r_aload_n dX12_infers__5 rfl
theorem eX12_infers__6 (h : g_o σ b 12) : am_lim call mX12_infers_ 6 [l0, l1] (.ref b :: []) σ = am_k (call mX12_readsWhole [.ref b] σ) (fun r σ1 => am_lim call mX12_infers_ 9 [l0, l1] (r.toList ++ []) σ1) := r_kV (S1 := []) dX12_infers__6 mt_12_194 rfl h (Nat.le_of_ble_eq_true rfl)
theorem eX12_infers__9 : am_lim call mX12_infers_ 9 [l0, l1] (S) σ = am_lim call mX12_infers_ 10 [l0, l1] (.int (-1) :: S) σ := r_iconst dX12_infers__9 (by decide)
theorem eX12_infers__10 : am_lim call mX12_infers_ 10 [l0, l1] (.int y :: .int x :: S) σ = if x = y then am_lim call mX12_infers_ 15 [l0, l1] (S) σ else am_lim call mX12_infers_ 13 [l0, l1] (S) σ := r_icmpB 15 dX12_infers__10 (by decide) rfl
theorem eX12_infers__13 : am_lim call mX12_infers_ 13 [l0, l1] (S) σ = am_lim call mX12_infers_ 14 [l0, l1] (.int (-1) :: S) σ := r_iconst dX12_infers__13 (by decide)
theorem eX12_infers__14 : am_lim call mX12_infers_ 14 [l0, l1] ([.int x]) σ = some (some (.int x), σ) := r_retI dX12_infers__14 rfl
theorem eX12_infers__15 : am_lim call mX12_infers_ 15 [some (.ref a), l1] (S) σ = am_lim call mX12_infers_ 16 [some (.ref a), l1] (.ref a :: S) σ := r_aload_n dX12_infers__15 rfl
theorem eX12_infers__16 : am_lim call mX12_infers_ 16 [l0, l1] (S) σ = am_lim call mX12_infers_ 17 [l0, l1] (.int 0 :: S) σ := r_iconst dX12_infers__16 (by decide)
theorem eX12_infers__17 (h : g_o σ a 12) : am_lim call mX12_infers_ 17 [l0, l1] (.int x :: .ref a :: S) σ = am_lim call mX12_infers_ 20 [l0, l1] (S) (am_sI σ a 2 x) := r_putI dX12_infers__17 f_12_116 rfl rfl h
theorem eX12_infers__20 : am_lim call mX12_infers_ 20 [some (.ref a), l1] (S) σ = am_lim call mX12_infers_ 21 [some (.ref a), l1] (.ref a :: S) σ := r_aload_n dX12_infers__20 rfl
theorem eX12_infers__21 : am_lim call mX12_infers_ 21 [l0, l1] (S) σ = am_lim call mX12_infers_ 22 [l0, l1] (.int 0 :: S) σ := r_iconst dX12_infers__21 (by decide)
theorem eX12_infers__22 : am_lim call mX12_infers_ 22 [l0, l1] (S) σ = am_lim call mX12_infers_ 23 [l0, l1] (.int 1 :: S) σ := r_iconst dX12_infers__22 (by decide)
theorem eX12_infers__23 (h : g_o σ b 12) : am_lim call mX12_infers_ 23 [l0, l1] (.int v1 :: .int v0 :: .ref b :: []) σ = am_k (call mX12_copies [.ref b, .int v0, .int v1] σ) (fun r σ1 => am_lim call mX12_infers_ 26 [l0, l1] (r.toList ++ []) σ1) := r_kV (S1 := [.int v1, .int v0]) dX12_infers__23 mt_12_438 rfl h (Nat.le_of_ble_eq_true rfl)
theorem eX12_infers__26 : am_lim call mX12_infers_ 26 [some (.ref a), l1] (S) σ = am_lim call mX12_infers_ 27 [some (.ref a), l1] (.ref a :: S) σ := r_aload_n dX12_infers__26 rfl
theorem eX12_infers__27 : am_lim call mX12_infers_ 27 [some (.ref a), l1] (S) σ = am_lim call mX12_infers_ 28 [some (.ref a), l1] (.ref a :: S) σ := r_aload_n dX12_infers__27 rfl
theorem eX12_infers__28 (h : g_o σ a 12) : am_lim call mX12_infers_ 28 [l0, l1] (.ref a :: S) σ = am_lim call mX12_infers_ 31 [l0, l1] (.int (g_I σ a 9) :: S) σ := r_getI dX12_infers__28 f_12_160 rfl h
theorem eX12_infers__31 (h : g_o σ a 12) : am_lim call mX12_infers_ 31 [l0, l1] (.int x :: .ref a :: S) σ = am_lim call mX12_infers_ 34 [l0, l1] (S) (am_sI σ a 50 x) := r_putI dX12_infers__31 f_12_441 rfl rfl h
theorem eX12_infers__34 : am_lim call mX12_infers_ 34 [some (.ref a), l1] (S) σ = am_lim call mX12_infers_ 35 [some (.ref a), l1] (.ref a :: S) σ := r_aload_n dX12_infers__34 rfl
theorem eX12_infers__35 : am_lim call mX12_infers_ 35 [l0, l1] (S) σ = am_lim call mX12_infers_ 36 [l0, l1] (.int 1 :: S) σ := r_iconst dX12_infers__35 (by decide)
theorem eX12_infers__36 (h : g_o σ a 12) (hx : x = 0 ∨ x = 1) : am_lim call mX12_infers_ 36 [l0, l1] (.int x :: .ref a :: S) σ = am_lim call mX12_infers_ 39 [l0, l1] (S) (am_sI σ a 39 x) := r_putZ dX12_infers__36 f_12_444 rfl rfl h hx
theorem eX12_infers__39 : am_lim call mX12_infers_ 39 [some (.ref a), l1] (S) σ = am_lim call mX12_infers_ 40 [some (.ref a), l1] (.ref a :: S) σ := r_aload_n dX12_infers__39 rfl
theorem eX12_infers__40 : am_lim call mX12_infers_ 40 [l0, l1] (S) σ = am_lim call mX12_infers_ 41 [l0, l1] (.int 1 :: S) σ := r_iconst dX12_infers__40 (by decide)
theorem eX12_infers__41 (h : g_o σ a 12) (hx : x = 0 ∨ x = 1) : am_lim call mX12_infers_ 41 [l0, l1] (.int x :: .ref a :: S) σ = am_lim call mX12_infers_ 44 [l0, l1] (S) (am_sI σ a 37 x) := r_putZ dX12_infers__41 f_12_447 rfl rfl h hx
theorem eX12_infers__44 : am_lim call mX12_infers_ 44 [some (.ref a), l1] (S) σ = am_lim call mX12_infers_ 45 [some (.ref a), l1] (.ref a :: S) σ := r_aload_n dX12_infers__44 rfl
theorem eX12_infers__45 : am_lim call mX12_infers_ 45 [l0, l1] (S) σ = am_lim call mX12_infers_ 48 [l0, l1] (.int 300 :: S) σ := r_sipush dX12_infers__45 (by decide)
theorem eX12_infers__48 (h : g_o σ b 12) : am_lim call mX12_infers_ 48 [l0, l1] (.int v0 :: .ref b :: []) σ = am_k (call mX12_judges [.ref b, .int v0] σ) (fun r σ1 => am_lim call mX12_infers_ 51 [l0, l1] (r.toList ++ []) σ1) := r_kV (S1 := [.int v0]) dX12_infers__48 mt_12_450 rfl h (Nat.le_of_ble_eq_true rfl)
theorem eX12_infers__51 : am_lim call mX12_infers_ 51 [l0, l1] (.int x :: S) σ = am_lim call mX12_infers_ 52 [l0, some (.int x)] (S) σ := r_istore_n dX12_infers__51 rfl rfl rfl rfl
theorem eX12_infers__52 : am_lim call mX12_infers_ 52 [some (.ref a), l1] (S) σ = am_lim call mX12_infers_ 53 [some (.ref a), l1] (.ref a :: S) σ := r_aload_n dX12_infers__52 rfl
theorem eX12_infers__53 (h : g_o σ b 12) : am_lim call mX12_infers_ 53 [l0, l1] (.ref b :: []) σ = am_k (call mX12_counted [.ref b] σ) (fun r σ1 => am_lim call mX12_infers_ 56 [l0, l1] (r.toList ++ []) σ1) := r_kV (S1 := []) dX12_infers__53 mt_12_453 rfl h (Nat.le_of_ble_eq_true rfl)
theorem eX12_infers__56 : am_lim call mX12_infers_ 56 [l0, l1] ([.int x]) σ = some (some (.int x), σ) := r_retI dX12_infers__56 rfl
theorem nX12_infers_ {d : Nat} : am_run (d + 1) mX12_infers_ [.ref b] σ = am_lim (am_run d) mX12_infers_ 0 [some (.ref b), none] [] σ := am_run_S rfl rfl rfl rfl
theorem dX12_readsWhole_0 : decode cX12_readsWhole 0 = .ok (.aload_n 0, 1) := by decide +kernel
theorem dX12_readsWhole_1 : decode cX12_readsWhole 1 = .ok (.invokevirtual 185, 3) := by decide +kernel
theorem dX12_readsWhole_4 : decode cX12_readsWhole 4 = .ok (.aload_n 0, 1) := by decide +kernel
theorem dX12_readsWhole_5 : decode cX12_readsWhole 5 = .ok (.iconst 1, 1) := by decide +kernel
theorem dX12_readsWhole_6 : decode cX12_readsWhole 6 = .ok (.invokevirtual 182, 3) := by decide +kernel
theorem dX12_readsWhole_9 : decode cX12_readsWhole 9 = .ok (.istore_n 1, 1) := by decide +kernel
theorem dX12_readsWhole_10 : decode cX12_readsWhole 10 = .ok (.aload_n 0, 1) := by decide +kernel
theorem dX12_readsWhole_11 : decode cX12_readsWhole 11 = .ok (.invokevirtual 191, 3) := by decide +kernel
theorem dX12_readsWhole_14 : decode cX12_readsWhole 14 = .ok (.aload_n 0, 1) := by decide +kernel
theorem dX12_readsWhole_15 : decode cX12_readsWhole 15 = .ok (.getfield 134, 3) := by decide +kernel
theorem dX12_readsWhole_18 : decode cX12_readsWhole 18 = .ok (.ireturn, 1) := by decide +kernel
theorem eX12_readsWhole_0 : am_lim call mX12_readsWhole 0 [some (.ref a), l1] (S) σ = am_lim call mX12_readsWhole 1 [some (.ref a), l1] (.ref a :: S) σ := r_aload_n dX12_readsWhole_0 rfl
theorem eX12_readsWhole_1 (h : g_o σ b 12) : am_lim call mX12_readsWhole 1 [l0, l1] (.ref b :: []) σ = am_k (call mX12_begins [.ref b] σ) (fun r σ1 => am_lim call mX12_readsWhole 4 [l0, l1] (r.toList ++ []) σ1) := r_kV (S1 := []) dX12_readsWhole_1 mt_12_185 rfl h (Nat.le_of_ble_eq_true rfl)
theorem eX12_readsWhole_4 : am_lim call mX12_readsWhole 4 [some (.ref a), l1] (S) σ = am_lim call mX12_readsWhole 5 [some (.ref a), l1] (.ref a :: S) σ := r_aload_n dX12_readsWhole_4 rfl
theorem eX12_readsWhole_5 : am_lim call mX12_readsWhole 5 [l0, l1] (S) σ = am_lim call mX12_readsWhole 6 [l0, l1] (.int 1 :: S) σ := r_iconst dX12_readsWhole_5 (by decide)
theorem eX12_readsWhole_6 (h : g_o σ b 12) : am_lim call mX12_readsWhole 6 [l0, l1] (.int v0 :: .ref b :: []) σ = am_k (call mX12_readsExpression [.ref b, .int v0] σ) (fun r σ1 => am_lim call mX12_readsWhole 9 [l0, l1] (r.toList ++ []) σ1) := r_kV (S1 := [.int v0]) dX12_readsWhole_6 mt_12_182 rfl h (Nat.le_of_ble_eq_true rfl)
theorem eX12_readsWhole_9 : am_lim call mX12_readsWhole 9 [l0, l1] (.int x :: S) σ = am_lim call mX12_readsWhole 10 [l0, some (.int x)] (S) σ := r_istore_n dX12_readsWhole_9 rfl rfl rfl rfl
theorem eX12_readsWhole_10 : am_lim call mX12_readsWhole 10 [some (.ref a), l1] (S) σ = am_lim call mX12_readsWhole 11 [some (.ref a), l1] (.ref a :: S) σ := r_aload_n dX12_readsWhole_10 rfl
theorem eX12_readsWhole_11 (h : g_o σ b 12) : am_lim call mX12_readsWhole 11 [l0, l1] (.ref b :: []) σ = am_k (call mX12_endsText [.ref b] σ) (fun r σ1 => am_lim call mX12_readsWhole 14 [l0, l1] (r.toList ++ []) σ1) := r_kV (S1 := []) dX12_readsWhole_11 mt_12_191 rfl h (Nat.le_of_ble_eq_true rfl)
theorem eX12_readsWhole_14 : am_lim call mX12_readsWhole 14 [some (.ref a), l1] (S) σ = am_lim call mX12_readsWhole 15 [some (.ref a), l1] (.ref a :: S) σ := r_aload_n dX12_readsWhole_14 rfl
theorem eX12_readsWhole_15 (h : g_o σ a 12) : am_lim call mX12_readsWhole 15 [l0, l1] (.ref a :: S) σ = am_lim call mX12_readsWhole 18 [l0, l1] (.int (g_I σ a 4) :: S) σ := r_getI dX12_readsWhole_15 f_12_134 rfl h
theorem eX12_readsWhole_18 : am_lim call mX12_readsWhole 18 [l0, l1] ([.int x]) σ = some (some (.int x), σ) := r_retI dX12_readsWhole_18 rfl
theorem nX12_readsWhole {d : Nat} : am_run (d + 1) mX12_readsWhole [.ref b] σ = am_lim (am_run d) mX12_readsWhole 0 [some (.ref b), none] [] σ := am_run_S rfl rfl rfl rfl
theorem dX12_begins_0 : decode cX12_begins 0 = .ok (.aload_n 0, 1) := by decide +kernel
theorem dX12_begins_1 : decode cX12_begins 1 = .ok (.iconst 0, 1) := by decide +kernel
theorem dX12_begins_2 : decode cX12_begins 2 = .ok (.putfield 127, 3) := by decide +kernel
theorem dX12_begins_5 : decode cX12_begins 5 = .ok (.aload_n 0, 1) := by decide +kernel
theorem dX12_begins_6 : decode cX12_begins 6 = .ok (.iconst (-1), 1) := by decide +kernel
theorem dX12_begins_7 : decode cX12_begins 7 = .ok (.putfield 134, 3) := by decide +kernel
theorem dX12_begins_10 : decode cX12_begins 10 = .ok (.aload_n 0, 1) := by decide +kernel
theorem dX12_begins_11 : decode cX12_begins 11 = .ok (.iconst 0, 1) := by decide +kernel
theorem dX12_begins_12 : decode cX12_begins 12 = .ok (.putfield 137, 3) := by decide +kernel
theorem dX12_begins_15 : decode cX12_begins 15 = .ok (.aload_n 0, 1) := by decide +kernel
theorem dX12_begins_16 : decode cX12_begins 16 = .ok (.iconst 0, 1) := by decide +kernel
theorem dX12_begins_17 : decode cX12_begins 17 = .ok (.putfield 160, 3) := by decide +kernel
theorem dX12_begins_20 : decode cX12_begins 20 = .ok (.return_, 1) := by decide +kernel
theorem eX12_begins_0 : am_lim call mX12_begins 0 [some (.ref a)] (S) σ = am_lim call mX12_begins 1 [some (.ref a)] (.ref a :: S) σ := r_aload_n dX12_begins_0 rfl
theorem eX12_begins_1 : am_lim call mX12_begins 1 [l0] (S) σ = am_lim call mX12_begins 2 [l0] (.int 0 :: S) σ := r_iconst dX12_begins_1 (by decide)
theorem eX12_begins_2 (h : g_o σ a 12) : am_lim call mX12_begins 2 [l0] (.int x :: .ref a :: S) σ = am_lim call mX12_begins 5 [l0] (S) (am_sI σ a 3 x) := r_putI dX12_begins_2 f_12_127 rfl rfl h
theorem eX12_begins_5 : am_lim call mX12_begins 5 [some (.ref a)] (S) σ = am_lim call mX12_begins 6 [some (.ref a)] (.ref a :: S) σ := r_aload_n dX12_begins_5 rfl
theorem eX12_begins_6 : am_lim call mX12_begins 6 [l0] (S) σ = am_lim call mX12_begins 7 [l0] (.int (-1) :: S) σ := r_iconst dX12_begins_6 (by decide)
theorem eX12_begins_7 (h : g_o σ a 12) : am_lim call mX12_begins 7 [l0] (.int x :: .ref a :: S) σ = am_lim call mX12_begins 10 [l0] (S) (am_sI σ a 4 x) := r_putI dX12_begins_7 f_12_134 rfl rfl h
theorem eX12_begins_10 : am_lim call mX12_begins 10 [some (.ref a)] (S) σ = am_lim call mX12_begins 11 [some (.ref a)] (.ref a :: S) σ := r_aload_n dX12_begins_10 rfl
theorem eX12_begins_11 : am_lim call mX12_begins 11 [l0] (S) σ = am_lim call mX12_begins 12 [l0] (.int 0 :: S) σ := r_iconst dX12_begins_11 (by decide)
theorem eX12_begins_12 (h : g_o σ a 12) : am_lim call mX12_begins 12 [l0] (.int x :: .ref a :: S) σ = am_lim call mX12_begins 15 [l0] (S) (am_sI σ a 6 x) := r_putI dX12_begins_12 f_12_137 rfl rfl h
theorem eX12_begins_15 : am_lim call mX12_begins 15 [some (.ref a)] (S) σ = am_lim call mX12_begins 16 [some (.ref a)] (.ref a :: S) σ := r_aload_n dX12_begins_15 rfl
theorem eX12_begins_16 : am_lim call mX12_begins 16 [l0] (S) σ = am_lim call mX12_begins 17 [l0] (.int 0 :: S) σ := r_iconst dX12_begins_16 (by decide)
theorem eX12_begins_17 (h : g_o σ a 12) : am_lim call mX12_begins 17 [l0] (.int x :: .ref a :: S) σ = am_lim call mX12_begins 20 [l0] (S) (am_sI σ a 9 x) := r_putI dX12_begins_17 f_12_160 rfl rfl h
theorem eX12_begins_20 : am_lim call mX12_begins 20 [l0] ([]) σ = some (none, σ) := r_retV dX12_begins_20 rfl
theorem nX12_begins {d : Nat} : am_run (d + 1) mX12_begins [.ref b] σ = am_lim (am_run d) mX12_begins 0 [some (.ref b)] [] σ := am_run_S rfl rfl rfl rfl
theorem dX12_readsExpression_0 : decode cX12_readsExpression 0 = .ok (.aload_n 0, 1) := by decide +kernel
theorem dX12_readsExpression_1 : decode cX12_readsExpression 1 = .ok (.getfield 134, 3) := by decide +kernel
theorem dX12_readsExpression_4 : decode cX12_readsExpression 4 = .ok (.iconst (-1), 1) := by decide +kernel
theorem dX12_readsExpression_5 : decode cX12_readsExpression 5 = .ok (.if_icmp .eq 5, 3) := by decide +kernel
theorem dX12_readsExpression_8 : decode cX12_readsExpression 8 = .ok (.iconst 0, 1) := by decide +kernel
theorem dX12_readsExpression_9 : decode cX12_readsExpression 9 = .ok (.ireturn, 1) := by decide +kernel
theorem dX12_readsExpression_10 : decode cX12_readsExpression 10 = .ok (.aload_n 0, 1) := by decide +kernel
theorem dX12_readsExpression_11 : decode cX12_readsExpression 11 = .ok (.invokevirtual 140, 3) := by decide +kernel
theorem dX12_readsExpression_14 : decode cX12_readsExpression 14 = .ok (.istore_n 2, 1) := by decide +kernel
theorem dX12_readsExpression_15 : decode cX12_readsExpression 15 = .ok (.aload_n 0, 1) := by decide +kernel
theorem dX12_readsExpression_16 : decode cX12_readsExpression 16 = .ok (.getfield 127, 3) := by decide +kernel
theorem dX12_readsExpression_19 : decode cX12_readsExpression 19 = .ok (.istore_n 3, 1) := by decide +kernel
theorem dX12_readsExpression_20 : decode cX12_readsExpression 20 = .ok (.iload_n 2, 1) := by decide +kernel
theorem dX12_readsExpression_21 : decode cX12_readsExpression 21 = .ok (.invokestatic 166, 3) := by decide +kernel
theorem dX12_readsExpression_24 : decode cX12_readsExpression 24 = .ok (.istore 4, 2) := by decide +kernel
theorem dX12_readsExpression_26 : decode cX12_readsExpression 26 = .ok (.iload 4, 2) := by decide +kernel
theorem dX12_readsExpression_28 : decode cX12_readsExpression 28 = .ok (.iconst (-1), 1) := by decide +kernel
theorem dX12_readsExpression_29 : decode cX12_readsExpression 29 = .ok (.if_icmp .eq 9, 3) := by decide +kernel
theorem dX12_readsExpression_32 : decode cX12_readsExpression 32 = .ok (.iload_n 1, 1) := by decide +kernel
theorem dX12_readsExpression_33 : decode cX12_readsExpression 33 = .ok (.bipush 20, 2) := by decide +kernel
theorem dX12_readsExpression_35 : decode cX12_readsExpression 35 = .ok (.if_icmp .le 9, 3) := by decide +kernel
theorem dX12_readsExpression_38 : decode cX12_readsExpression 38 = .ok (.aload_n 0, 1) := by decide +kernel
theorem dX12_readsExpression_39 : decode cX12_readsExpression 39 = .ok (.iload_n 3, 1) := by decide +kernel
theorem dX12_readsExpression_40 : decode cX12_readsExpression 40 = .ok (.invokevirtual 147, 3) := by decide +kernel
theorem dX12_readsExpression_43 : decode cX12_readsExpression 43 = .ok (.ireturn, 1) := by decide +kernel
theorem dX12_readsExpression_44 : decode cX12_readsExpression 44 = .ok (.aload_n 0, 1) := by decide +kernel
theorem dX12_readsExpression_45 : decode cX12_readsExpression 45 = .ok (.iload 4, 2) := by decide +kernel
theorem dX12_readsExpression_47 : decode cX12_readsExpression 47 = .ok (.iload_n 3, 1) := by decide +kernel
theorem dX12_readsExpression_48 : decode cX12_readsExpression 48 = .ok (.invokevirtual 169, 3) := by decide +kernel
theorem dX12_readsExpression_51 : decode cX12_readsExpression 51 = .ok (.istore 5, 2) := by decide +kernel
theorem dX12_readsExpression_53 : decode cX12_readsExpression 53 = .ok (.iload 4, 2) := by decide +kernel
theorem dX12_readsExpression_55 : decode cX12_readsExpression 55 = .ok (.iconst 1, 1) := by decide +kernel
theorem dX12_readsExpression_56 : decode cX12_readsExpression 56 = .ok (.if_icmp .ne 17, 3) := by decide +kernel
theorem dX12_readsExpression_59 : decode cX12_readsExpression 59 = .ok (.aload_n 0, 1) := by decide +kernel
theorem dX12_readsExpression_60 : decode cX12_readsExpression 60 = .ok (.iload 5, 2) := by decide +kernel
theorem dX12_readsExpression_62 : decode cX12_readsExpression 62 = .ok (.iconst 1, 1) := by decide +kernel
theorem dX12_readsExpression_63 : decode cX12_readsExpression 63 = .ok (.aload_n 0, 1) := by decide +kernel
theorem dX12_readsExpression_64 : decode cX12_readsExpression 64 = .ok (.invokevirtual 173, 3) := by decide +kernel
theorem dX12_readsExpression_67 : decode cX12_readsExpression 67 = .ok (.invokevirtual 176, 3) := by decide +kernel
theorem dX12_readsExpression_70 : decode cX12_readsExpression 70 = .ok (.iload 5, 2) := by decide +kernel
theorem dX12_readsExpression_72 : decode cX12_readsExpression 72 = .ok (.ireturn, 1) := by decide +kernel
theorem dX12_readsExpression_73 : decode cX12_readsExpression 73 = .ok (.aload_n 0, 1) := by decide +kernel
theorem dX12_readsExpression_74 : decode cX12_readsExpression 74 = .ok (.dup, 1) := by decide +kernel
theorem dX12_readsExpression_75 : decode cX12_readsExpression 75 = .ok (.getfield 127, 3) := by decide +kernel
theorem dX12_readsExpression_78 : decode cX12_readsExpression 78 = .ok (.iconst 1, 1) := by decide +kernel
theorem dX12_readsExpression_79 : decode cX12_readsExpression 79 = .ok (.iadd, 1) := by decide +kernel
theorem dX12_readsExpression_80 : decode cX12_readsExpression 80 = .ok (.putfield 127, 3) := by decide +kernel
theorem dX12_readsExpression_83 : decode cX12_readsExpression 83 = .ok (.iload 4, 2) := by decide +kernel
theorem dX12_readsExpression_85 : decode cX12_readsExpression 85 = .ok (.ifCond .ne 14, 3) := by decide +kernel
theorem dX12_readsExpression_88 : decode cX12_readsExpression 88 = .ok (.aload_n 0, 1) := by decide +kernel
theorem dX12_readsExpression_89 : decode cX12_readsExpression 89 = .ok (.iload 5, 2) := by decide +kernel
theorem dX12_readsExpression_91 : decode cX12_readsExpression 91 = .ok (.iconst 1, 1) := by decide +kernel
theorem dX12_readsExpression_92 : decode cX12_readsExpression 92 = .ok (.iload_n 2, 1) := by decide +kernel
theorem dX12_readsExpression_93 : decode cX12_readsExpression 93 = .ok (.bipush 97, 2) := by decide +kernel
theorem dX12_readsExpression_95 : decode cX12_readsExpression 95 = .ok (.isub, 1) := by decide +kernel
theorem dX12_readsExpression_96 : decode cX12_readsExpression 96 = .ok (.invokevirtual 176, 3) := by decide +kernel
theorem dX12_readsExpression_99 : decode cX12_readsExpression 99 = .ok (.iload 4, 2) := by decide +kernel
theorem dX12_readsExpression_101 : decode cX12_readsExpression 101 = .ok (.iconst 2, 1) := by decide +kernel
theorem dX12_readsExpression_102 : decode cX12_readsExpression 102 = .ok (.if_icmp .ne 21, 3) := by decide +kernel
theorem dX12_readsExpression_105 : decode cX12_readsExpression 105 = .ok (.aload_n 0, 1) := by decide +kernel
theorem dX12_readsExpression_106 : decode cX12_readsExpression 106 = .ok (.iload 5, 2) := by decide +kernel
theorem dX12_readsExpression_108 : decode cX12_readsExpression 108 = .ok (.iconst 1, 1) := by decide +kernel
theorem dX12_readsExpression_109 : decode cX12_readsExpression 109 = .ok (.iload_n 2, 1) := by decide +kernel
theorem dX12_readsExpression_110 : decode cX12_readsExpression 110 = .ok (.bipush 84, 2) := by decide +kernel
theorem dX12_readsExpression_112 : decode cX12_readsExpression 112 = .ok (.if_icmp .ne 7, 3) := by decide +kernel
theorem dX12_readsExpression_115 : decode cX12_readsExpression 115 = .ok (.iconst 1, 1) := by decide +kernel
theorem dX12_readsExpression_116 : decode cX12_readsExpression 116 = .ok (.goto 4, 3) := by decide +kernel
theorem dX12_readsExpression_119 : decode cX12_readsExpression 119 = .ok (.iconst 0, 1) := by decide +kernel
theorem dX12_readsExpression_120 : decode cX12_readsExpression 120 = .ok (.invokevirtual 176, 3) := by decide +kernel
theorem dX12_readsExpression_123 : decode cX12_readsExpression 123 = .ok (.iload 4, 2) := by decide +kernel
theorem dX12_readsExpression_125 : decode cX12_readsExpression 125 = .ok (.iconst 4, 1) := by decide +kernel
theorem dX12_readsExpression_126 : decode cX12_readsExpression 126 = .ok (.if_icmp .eq 10, 3) := by decide +kernel
theorem dX12_readsExpression_129 : decode cX12_readsExpression 129 = .ok (.iload 4, 2) := by decide +kernel
theorem dX12_readsExpression_131 : decode cX12_readsExpression 131 = .ok (.bipush 7, 2) := by decide +kernel
theorem dX12_readsExpression_133 : decode cX12_readsExpression 133 = .ok (.if_icmp .ne 14, 3) := by decide +kernel
theorem dX12_readsExpression_136 : decode cX12_readsExpression 136 = .ok (.aload_n 0, 1) := by decide +kernel
theorem dX12_readsExpression_137 : decode cX12_readsExpression 137 = .ok (.iload 5, 2) := by decide +kernel
theorem dX12_readsExpression_139 : decode cX12_readsExpression 139 = .ok (.iconst 1, 1) := by decide +kernel
theorem dX12_readsExpression_140 : decode cX12_readsExpression 140 = .ok (.aload_n 0, 1) := by decide +kernel
theorem dX12_readsExpression_141 : decode cX12_readsExpression 141 = .ok (.invokevirtual 157, 3) := by decide +kernel
theorem dX12_readsExpression_144 : decode cX12_readsExpression 144 = .ok (.invokevirtual 176, 3) := by decide +kernel
theorem dX12_readsExpression_147 : decode cX12_readsExpression 147 = .ok (.iconst 0, 1) := by decide +kernel
theorem dX12_readsExpression_148 : decode cX12_readsExpression 148 = .ok (.istore 6, 2) := by decide +kernel
theorem dX12_readsExpression_150 : decode cX12_readsExpression 150 = .ok (.iload 6, 2) := by decide +kernel
theorem dX12_readsExpression_152 : decode cX12_readsExpression 152 = .ok (.iload 4, 2) := by decide +kernel
theorem dX12_readsExpression_154 : decode cX12_readsExpression 154 = .ok (.invokestatic 179, 3) := by decide +kernel
theorem dX12_readsExpression_157 : decode cX12_readsExpression 157 = .ok (.if_icmp .ge 26, 3) := by decide +kernel
theorem dX12_readsExpression_160 : decode cX12_readsExpression 160 = .ok (.aload_n 0, 1) := by decide +kernel
theorem dX12_readsExpression_161 : decode cX12_readsExpression 161 = .ok (.iload 5, 2) := by decide +kernel
theorem dX12_readsExpression_163 : decode cX12_readsExpression 163 = .ok (.iconst 2, 1) := by decide +kernel
theorem dX12_readsExpression_164 : decode cX12_readsExpression 164 = .ok (.iload 6, 2) := by decide +kernel
theorem dX12_readsExpression_166 : decode cX12_readsExpression 166 = .ok (.iadd, 1) := by decide +kernel
theorem dX12_readsExpression_167 : decode cX12_readsExpression 167 = .ok (.aload_n 0, 1) := by decide +kernel
theorem dX12_readsExpression_168 : decode cX12_readsExpression 168 = .ok (.iload_n 1, 1) := by decide +kernel
theorem dX12_readsExpression_169 : decode cX12_readsExpression 169 = .ok (.iconst 1, 1) := by decide +kernel
theorem dX12_readsExpression_170 : decode cX12_readsExpression 170 = .ok (.iadd, 1) := by decide +kernel
theorem dX12_readsExpression_171 : decode cX12_readsExpression 171 = .ok (.invokevirtual 182, 3) := by decide +kernel
theorem dX12_readsExpression_174 : decode cX12_readsExpression 174 = .ok (.invokevirtual 176, 3) := by decide +kernel
theorem dX12_readsExpression_177 : decode cX12_readsExpression 177 = .ok (.iinc 6 1, 3) := by decide +kernel
theorem dX12_readsExpression_180 : decode cX12_readsExpression 180 = .ok (.goto (-30), 3) := by decide +kernel
theorem dX12_readsExpression_183 : decode cX12_readsExpression 183 = .ok (.iload 4, 2) := by decide +kernel
theorem dX12_readsExpression_185 : decode cX12_readsExpression 185 = .ok (.bipush 6, 2) := by decide +kernel
theorem dX12_readsExpression_187 : decode cX12_readsExpression 187 = .ok (.if_icmp .ne 22, 3) := by decide +kernel
theorem dX12_readsExpression_190 : decode cX12_readsExpression 190 = .ok (.aload_n 0, 1) := by decide +kernel
theorem dX12_readsExpression_191 : decode cX12_readsExpression 191 = .ok (.iload 5, 2) := by decide +kernel
theorem dX12_readsExpression_193 : decode cX12_readsExpression 193 = .ok (.iconst 1, 1) := by decide +kernel
theorem dX12_readsExpression_194 : decode cX12_readsExpression 194 = .ok (.aload_n 0, 1) := by decide +kernel
theorem dX12_readsExpression_195 : decode cX12_readsExpression 195 = .ok (.getfield 137, 3) := by decide +kernel
theorem dX12_readsExpression_198 : decode cX12_readsExpression 198 = .ok (.invokevirtual 176, 3) := by decide +kernel
theorem dX12_readsExpression_201 : decode cX12_readsExpression 201 = .ok (.aload_n 0, 1) := by decide +kernel
theorem dX12_readsExpression_202 : decode cX12_readsExpression 202 = .ok (.iload_n 1, 1) := by decide +kernel
theorem dX12_readsExpression_203 : decode cX12_readsExpression 203 = .ok (.iconst 1, 1) := by decide +kernel
theorem dX12_readsExpression_204 : decode cX12_readsExpression 204 = .ok (.iadd, 1) := by decide +kernel
theorem dX12_readsExpression_205 : decode cX12_readsExpression 205 = .ok (.iconst 0, 1) := by decide +kernel
theorem dX12_readsExpression_206 : decode cX12_readsExpression 206 = .ok (.invokevirtual 153, 3) := by decide +kernel
theorem dX12_readsExpression_209 : decode cX12_readsExpression 209 = .ok (.iload 5, 2) := by decide +kernel
theorem dX12_readsExpression_211 : decode cX12_readsExpression 211 = .ok (.ireturn, 1) := by decide +kernel
theorem eX12_readsExpression_0 : am_lim call mX12_readsExpression 0 [some (.ref a), l1, l2, l3, l4, l5, l6] (S) σ = am_lim call mX12_readsExpression 1 [some (.ref a), l1, l2, l3, l4, l5, l6] (.ref a :: S) σ := r_aload_n dX12_readsExpression_0 rfl
theorem eX12_readsExpression_1 (h : g_o σ a 12) : am_lim call mX12_readsExpression 1 [l0, l1, l2, l3, l4, l5, l6] (.ref a :: S) σ = am_lim call mX12_readsExpression 4 [l0, l1, l2, l3, l4, l5, l6] (.int (g_I σ a 4) :: S) σ := r_getI dX12_readsExpression_1 f_12_134 rfl h
theorem eX12_readsExpression_4 : am_lim call mX12_readsExpression 4 [l0, l1, l2, l3, l4, l5, l6] (S) σ = am_lim call mX12_readsExpression 5 [l0, l1, l2, l3, l4, l5, l6] (.int (-1) :: S) σ := r_iconst dX12_readsExpression_4 (by decide)
theorem eX12_readsExpression_5 : am_lim call mX12_readsExpression 5 [l0, l1, l2, l3, l4, l5, l6] (.int y :: .int x :: S) σ = if x = y then am_lim call mX12_readsExpression 10 [l0, l1, l2, l3, l4, l5, l6] (S) σ else am_lim call mX12_readsExpression 8 [l0, l1, l2, l3, l4, l5, l6] (S) σ := r_icmpB 10 dX12_readsExpression_5 (by decide) rfl
theorem eX12_readsExpression_8 : am_lim call mX12_readsExpression 8 [l0, l1, l2, l3, l4, l5, l6] (S) σ = am_lim call mX12_readsExpression 9 [l0, l1, l2, l3, l4, l5, l6] (.int 0 :: S) σ := r_iconst dX12_readsExpression_8 (by decide)
theorem eX12_readsExpression_9 : am_lim call mX12_readsExpression 9 [l0, l1, l2, l3, l4, l5, l6] ([.int x]) σ = some (some (.int x), σ) := r_retI dX12_readsExpression_9 rfl
theorem eX12_readsExpression_10 : am_lim call mX12_readsExpression 10 [some (.ref a), l1, l2, l3, l4, l5, l6] (S) σ = am_lim call mX12_readsExpression 11 [some (.ref a), l1, l2, l3, l4, l5, l6] (.ref a :: S) σ := r_aload_n dX12_readsExpression_10 rfl
theorem eX12_readsExpression_11 (h : g_o σ b 12) : am_lim call mX12_readsExpression 11 [l0, l1, l2, l3, l4, l5, l6] (.ref b :: []) σ = am_k (call mX12_look [.ref b] σ) (fun r σ1 => am_lim call mX12_readsExpression 14 [l0, l1, l2, l3, l4, l5, l6] (r.toList ++ []) σ1) := r_kV (S1 := []) dX12_readsExpression_11 mt_12_140 rfl h (Nat.le_of_ble_eq_true rfl)
theorem eX12_readsExpression_14 : am_lim call mX12_readsExpression 14 [l0, l1, l2, l3, l4, l5, l6] (.int x :: S) σ = am_lim call mX12_readsExpression 15 [l0, l1, some (.int x), l3, l4, l5, l6] (S) σ := r_istore_n dX12_readsExpression_14 rfl rfl rfl rfl
theorem eX12_readsExpression_15 : am_lim call mX12_readsExpression 15 [some (.ref a), l1, l2, l3, l4, l5, l6] (S) σ = am_lim call mX12_readsExpression 16 [some (.ref a), l1, l2, l3, l4, l5, l6] (.ref a :: S) σ := r_aload_n dX12_readsExpression_15 rfl
theorem eX12_readsExpression_16 (h : g_o σ a 12) : am_lim call mX12_readsExpression 16 [l0, l1, l2, l3, l4, l5, l6] (.ref a :: S) σ = am_lim call mX12_readsExpression 19 [l0, l1, l2, l3, l4, l5, l6] (.int (g_I σ a 3) :: S) σ := r_getI dX12_readsExpression_16 f_12_127 rfl h
theorem eX12_readsExpression_19 : am_lim call mX12_readsExpression 19 [l0, l1, l2, l3, l4, l5, l6] (.int x :: S) σ = am_lim call mX12_readsExpression 20 [l0, l1, l2, some (.int x), l4, l5, l6] (S) σ := r_istore_n dX12_readsExpression_19 rfl rfl rfl rfl
theorem eX12_readsExpression_20 : am_lim call mX12_readsExpression 20 [l0, l1, some (.int x), l3, l4, l5, l6] (S) σ = am_lim call mX12_readsExpression 21 [l0, l1, some (.int x), l3, l4, l5, l6] (.int x :: S) σ := r_iload_n dX12_readsExpression_20 rfl
theorem eX12_readsExpression_21 : am_lim call mX12_readsExpression 21 [l0, l1, l2, l3, l4, l5, l6] (.int v0 :: []) σ = am_k (call mX12_kindOf [.int v0] σ) (fun r σ1 => am_lim call mX12_readsExpression 24 [l0, l1, l2, l3, l4, l5, l6] (r.toList ++ []) σ1) := r_kS (S1 := [.int v0]) dX12_readsExpression_21 ⟨rfl, rfl, rfl⟩ mt_12_166 rfl (Nat.le_of_ble_eq_true rfl)
theorem eX12_readsExpression_24 : am_lim call mX12_readsExpression 24 [l0, l1, l2, l3, l4, l5, l6] (.int x :: S) σ = am_lim call mX12_readsExpression 26 [l0, l1, l2, l3, some (.int x), l5, l6] (S) σ := r_istore dX12_readsExpression_24 rfl rfl rfl rfl
theorem eX12_readsExpression_26 : am_lim call mX12_readsExpression 26 [l0, l1, l2, l3, some (.int x), l5, l6] (S) σ = am_lim call mX12_readsExpression 28 [l0, l1, l2, l3, some (.int x), l5, l6] (.int x :: S) σ := r_iload dX12_readsExpression_26 rfl
theorem eX12_readsExpression_28 : am_lim call mX12_readsExpression 28 [l0, l1, l2, l3, l4, l5, l6] (S) σ = am_lim call mX12_readsExpression 29 [l0, l1, l2, l3, l4, l5, l6] (.int (-1) :: S) σ := r_iconst dX12_readsExpression_28 (by decide)
theorem eX12_readsExpression_29 : am_lim call mX12_readsExpression 29 [l0, l1, l2, l3, l4, l5, l6] (.int y :: .int x :: S) σ = if x = y then am_lim call mX12_readsExpression 38 [l0, l1, l2, l3, l4, l5, l6] (S) σ else am_lim call mX12_readsExpression 32 [l0, l1, l2, l3, l4, l5, l6] (S) σ := r_icmpB 38 dX12_readsExpression_29 (by decide) rfl
theorem eX12_readsExpression_32 : am_lim call mX12_readsExpression 32 [l0, some (.int x), l2, l3, l4, l5, l6] (S) σ = am_lim call mX12_readsExpression 33 [l0, some (.int x), l2, l3, l4, l5, l6] (.int x :: S) σ := r_iload_n dX12_readsExpression_32 rfl
theorem eX12_readsExpression_33 : am_lim call mX12_readsExpression 33 [l0, l1, l2, l3, l4, l5, l6] (S) σ = am_lim call mX12_readsExpression 35 [l0, l1, l2, l3, l4, l5, l6] (.int 20 :: S) σ := r_bipush dX12_readsExpression_33 (by decide)
theorem eX12_readsExpression_35 : am_lim call mX12_readsExpression 35 [l0, l1, l2, l3, l4, l5, l6] (.int y :: .int x :: S) σ = if x ≤ y then am_lim call mX12_readsExpression 44 [l0, l1, l2, l3, l4, l5, l6] (S) σ else am_lim call mX12_readsExpression 38 [l0, l1, l2, l3, l4, l5, l6] (S) σ := r_icmpB 44 dX12_readsExpression_35 (by decide) rfl
theorem eX12_readsExpression_44 : am_lim call mX12_readsExpression 44 [some (.ref a), l1, l2, l3, l4, l5, l6] (S) σ = am_lim call mX12_readsExpression 45 [some (.ref a), l1, l2, l3, l4, l5, l6] (.ref a :: S) σ := r_aload_n dX12_readsExpression_44 rfl
theorem eX12_readsExpression_45 : am_lim call mX12_readsExpression 45 [l0, l1, l2, l3, some (.int x), l5, l6] (S) σ = am_lim call mX12_readsExpression 47 [l0, l1, l2, l3, some (.int x), l5, l6] (.int x :: S) σ := r_iload dX12_readsExpression_45 rfl
theorem eX12_readsExpression_47 : am_lim call mX12_readsExpression 47 [l0, l1, l2, some (.int x), l4, l5, l6] (S) σ = am_lim call mX12_readsExpression 48 [l0, l1, l2, some (.int x), l4, l5, l6] (.int x :: S) σ := r_iload_n dX12_readsExpression_47 rfl
theorem eX12_readsExpression_48 (h : g_o σ b 12) : am_lim call mX12_readsExpression 48 [l0, l1, l2, l3, l4, l5, l6] (.int v1 :: .int v0 :: .ref b :: []) σ = am_k (call mX12_opens [.ref b, .int v0, .int v1] σ) (fun r σ1 => am_lim call mX12_readsExpression 51 [l0, l1, l2, l3, l4, l5, l6] (r.toList ++ []) σ1) := r_kV (S1 := [.int v1, .int v0]) dX12_readsExpression_48 mt_12_169 rfl h (Nat.le_of_ble_eq_true rfl)
theorem eX12_readsExpression_51 : am_lim call mX12_readsExpression 51 [l0, l1, l2, l3, l4, l5, l6] (.int x :: S) σ = am_lim call mX12_readsExpression 53 [l0, l1, l2, l3, l4, some (.int x), l6] (S) σ := r_istore dX12_readsExpression_51 rfl rfl rfl rfl
theorem eX12_readsExpression_53 : am_lim call mX12_readsExpression 53 [l0, l1, l2, l3, some (.int x), l5, l6] (S) σ = am_lim call mX12_readsExpression 55 [l0, l1, l2, l3, some (.int x), l5, l6] (.int x :: S) σ := r_iload dX12_readsExpression_53 rfl
theorem eX12_readsExpression_55 : am_lim call mX12_readsExpression 55 [l0, l1, l2, l3, l4, l5, l6] (S) σ = am_lim call mX12_readsExpression 56 [l0, l1, l2, l3, l4, l5, l6] (.int 1 :: S) σ := r_iconst dX12_readsExpression_55 (by decide)
theorem eX12_readsExpression_56 : am_lim call mX12_readsExpression 56 [l0, l1, l2, l3, l4, l5, l6] (.int y :: .int x :: S) σ = if x ≠ y then am_lim call mX12_readsExpression 73 [l0, l1, l2, l3, l4, l5, l6] (S) σ else am_lim call mX12_readsExpression 59 [l0, l1, l2, l3, l4, l5, l6] (S) σ := r_icmpB 73 dX12_readsExpression_56 (by decide) rfl
theorem eX12_readsExpression_59 : am_lim call mX12_readsExpression 59 [some (.ref a), l1, l2, l3, l4, l5, l6] (S) σ = am_lim call mX12_readsExpression 60 [some (.ref a), l1, l2, l3, l4, l5, l6] (.ref a :: S) σ := r_aload_n dX12_readsExpression_59 rfl
theorem eX12_readsExpression_60 : am_lim call mX12_readsExpression 60 [l0, l1, l2, l3, l4, some (.int x), l6] (S) σ = am_lim call mX12_readsExpression 62 [l0, l1, l2, l3, l4, some (.int x), l6] (.int x :: S) σ := r_iload dX12_readsExpression_60 rfl
theorem eX12_readsExpression_62 : am_lim call mX12_readsExpression 62 [l0, l1, l2, l3, l4, l5, l6] (S) σ = am_lim call mX12_readsExpression 63 [l0, l1, l2, l3, l4, l5, l6] (.int 1 :: S) σ := r_iconst dX12_readsExpression_62 (by decide)
theorem eX12_readsExpression_63 : am_lim call mX12_readsExpression 63 [some (.ref a), l1, l2, l3, l4, l5, l6] (S) σ = am_lim call mX12_readsExpression 64 [some (.ref a), l1, l2, l3, l4, l5, l6] (.ref a :: S) σ := r_aload_n dX12_readsExpression_63 rfl
theorem eX12_readsExpression_64 (h : g_o σ b 12) : am_lim call mX12_readsExpression 64 [l0, l1, l2, l3, l4, l5, l6] (.ref b :: .int s0 :: .int s1 :: .ref q2 :: []) σ = am_k (call mX12_number [.ref b] σ) (fun r σ1 => am_lim call mX12_readsExpression 67 [l0, l1, l2, l3, l4, l5, l6] (r.toList ++ .int s0 :: .int s1 :: .ref q2 :: []) σ1) := r_kV (S1 := []) dX12_readsExpression_64 mt_12_173 rfl h (Nat.le_of_ble_eq_true rfl)
theorem eX12_readsExpression_67 (h : g_o σ b 12) : am_lim call mX12_readsExpression 67 [l0, l1, l2, l3, l4, l5, l6] (.int v2 :: .int v1 :: .int v0 :: .ref b :: []) σ = am_k (call mX12_puts_ [.ref b, .int v0, .int v1, .int v2] σ) (fun r σ1 => am_lim call mX12_readsExpression 70 [l0, l1, l2, l3, l4, l5, l6] (r.toList ++ []) σ1) := r_kV (S1 := [.int v2, .int v1, .int v0]) dX12_readsExpression_67 mt_12_176 rfl h (Nat.le_of_ble_eq_true rfl)
theorem eX12_readsExpression_70 : am_lim call mX12_readsExpression 70 [l0, l1, l2, l3, l4, some (.int x), l6] (S) σ = am_lim call mX12_readsExpression 72 [l0, l1, l2, l3, l4, some (.int x), l6] (.int x :: S) σ := r_iload dX12_readsExpression_70 rfl
theorem eX12_readsExpression_72 : am_lim call mX12_readsExpression 72 [l0, l1, l2, l3, l4, l5, l6] ([.int x]) σ = some (some (.int x), σ) := r_retI dX12_readsExpression_72 rfl
theorem eX12_readsExpression_73 : am_lim call mX12_readsExpression 73 [some (.ref a), l1, l2, l3, l4, l5, l6] (S) σ = am_lim call mX12_readsExpression 74 [some (.ref a), l1, l2, l3, l4, l5, l6] (.ref a :: S) σ := r_aload_n dX12_readsExpression_73 rfl
theorem eX12_readsExpression_74 : am_lim call mX12_readsExpression 74 [l0, l1, l2, l3, l4, l5, l6] (.ref a :: S) σ = am_lim call mX12_readsExpression 75 [l0, l1, l2, l3, l4, l5, l6] (.ref a :: .ref a :: S) σ := r_dupA dX12_readsExpression_74
theorem eX12_readsExpression_75 (h : g_o σ a 12) : am_lim call mX12_readsExpression 75 [l0, l1, l2, l3, l4, l5, l6] (.ref a :: S) σ = am_lim call mX12_readsExpression 78 [l0, l1, l2, l3, l4, l5, l6] (.int (g_I σ a 3) :: S) σ := r_getI dX12_readsExpression_75 f_12_127 rfl h
theorem eX12_readsExpression_78 : am_lim call mX12_readsExpression 78 [l0, l1, l2, l3, l4, l5, l6] (S) σ = am_lim call mX12_readsExpression 79 [l0, l1, l2, l3, l4, l5, l6] (.int 1 :: S) σ := r_iconst dX12_readsExpression_78 (by decide)
theorem eX12_readsExpression_79 : am_lim call mX12_readsExpression 79 [l0, l1, l2, l3, l4, l5, l6] (.int y :: .int x :: S) σ = am_lim call mX12_readsExpression 80 [l0, l1, l2, l3, l4, l5, l6] (.int (x + y) :: S) σ := r_iadd dX12_readsExpression_79
theorem eX12_readsExpression_80 (h : g_o σ a 12) : am_lim call mX12_readsExpression 80 [l0, l1, l2, l3, l4, l5, l6] (.int x :: .ref a :: S) σ = am_lim call mX12_readsExpression 83 [l0, l1, l2, l3, l4, l5, l6] (S) (am_sI σ a 3 x) := r_putI dX12_readsExpression_80 f_12_127 rfl rfl h
theorem eX12_readsExpression_83 : am_lim call mX12_readsExpression 83 [l0, l1, l2, l3, some (.int x), l5, l6] (S) σ = am_lim call mX12_readsExpression 85 [l0, l1, l2, l3, some (.int x), l5, l6] (.int x :: S) σ := r_iload dX12_readsExpression_83 rfl
theorem eX12_readsExpression_85 : am_lim call mX12_readsExpression 85 [l0, l1, l2, l3, l4, l5, l6] (.int x :: S) σ = if x ≠ 0 then am_lim call mX12_readsExpression 99 [l0, l1, l2, l3, l4, l5, l6] (S) σ else am_lim call mX12_readsExpression 88 [l0, l1, l2, l3, l4, l5, l6] (S) σ := r_ifB 99 dX12_readsExpression_85 (by decide) rfl
theorem eX12_readsExpression_88 : am_lim call mX12_readsExpression 88 [some (.ref a), l1, l2, l3, l4, l5, l6] (S) σ = am_lim call mX12_readsExpression 89 [some (.ref a), l1, l2, l3, l4, l5, l6] (.ref a :: S) σ := r_aload_n dX12_readsExpression_88 rfl
theorem eX12_readsExpression_89 : am_lim call mX12_readsExpression 89 [l0, l1, l2, l3, l4, some (.int x), l6] (S) σ = am_lim call mX12_readsExpression 91 [l0, l1, l2, l3, l4, some (.int x), l6] (.int x :: S) σ := r_iload dX12_readsExpression_89 rfl
theorem eX12_readsExpression_91 : am_lim call mX12_readsExpression 91 [l0, l1, l2, l3, l4, l5, l6] (S) σ = am_lim call mX12_readsExpression 92 [l0, l1, l2, l3, l4, l5, l6] (.int 1 :: S) σ := r_iconst dX12_readsExpression_91 (by decide)
theorem eX12_readsExpression_92 : am_lim call mX12_readsExpression 92 [l0, l1, some (.int x), l3, l4, l5, l6] (S) σ = am_lim call mX12_readsExpression 93 [l0, l1, some (.int x), l3, l4, l5, l6] (.int x :: S) σ := r_iload_n dX12_readsExpression_92 rfl
theorem eX12_readsExpression_93 : am_lim call mX12_readsExpression 93 [l0, l1, l2, l3, l4, l5, l6] (S) σ = am_lim call mX12_readsExpression 95 [l0, l1, l2, l3, l4, l5, l6] (.int 97 :: S) σ := r_bipush dX12_readsExpression_93 (by decide)
theorem eX12_readsExpression_95 : am_lim call mX12_readsExpression 95 [l0, l1, l2, l3, l4, l5, l6] (.int y :: .int x :: S) σ = am_lim call mX12_readsExpression 96 [l0, l1, l2, l3, l4, l5, l6] (.int (x - y) :: S) σ := r_isub dX12_readsExpression_95
theorem eX12_readsExpression_96 (h : g_o σ b 12) : am_lim call mX12_readsExpression 96 [l0, l1, l2, l3, l4, l5, l6] (.int v2 :: .int v1 :: .int v0 :: .ref b :: []) σ = am_k (call mX12_puts_ [.ref b, .int v0, .int v1, .int v2] σ) (fun r σ1 => am_lim call mX12_readsExpression 99 [l0, l1, l2, l3, l4, l5, l6] (r.toList ++ []) σ1) := r_kV (S1 := [.int v2, .int v1, .int v0]) dX12_readsExpression_96 mt_12_176 rfl h (Nat.le_of_ble_eq_true rfl)
theorem eX12_readsExpression_99 : am_lim call mX12_readsExpression 99 [l0, l1, l2, l3, some (.int x), l5, l6] (S) σ = am_lim call mX12_readsExpression 101 [l0, l1, l2, l3, some (.int x), l5, l6] (.int x :: S) σ := r_iload dX12_readsExpression_99 rfl
theorem eX12_readsExpression_101 : am_lim call mX12_readsExpression 101 [l0, l1, l2, l3, l4, l5, l6] (S) σ = am_lim call mX12_readsExpression 102 [l0, l1, l2, l3, l4, l5, l6] (.int 2 :: S) σ := r_iconst dX12_readsExpression_101 (by decide)
theorem eX12_readsExpression_102 : am_lim call mX12_readsExpression 102 [l0, l1, l2, l3, l4, l5, l6] (.int y :: .int x :: S) σ = if x ≠ y then am_lim call mX12_readsExpression 123 [l0, l1, l2, l3, l4, l5, l6] (S) σ else am_lim call mX12_readsExpression 105 [l0, l1, l2, l3, l4, l5, l6] (S) σ := r_icmpB 123 dX12_readsExpression_102 (by decide) rfl
theorem eX12_readsExpression_105 : am_lim call mX12_readsExpression 105 [some (.ref a), l1, l2, l3, l4, l5, l6] (S) σ = am_lim call mX12_readsExpression 106 [some (.ref a), l1, l2, l3, l4, l5, l6] (.ref a :: S) σ := r_aload_n dX12_readsExpression_105 rfl
theorem eX12_readsExpression_106 : am_lim call mX12_readsExpression 106 [l0, l1, l2, l3, l4, some (.int x), l6] (S) σ = am_lim call mX12_readsExpression 108 [l0, l1, l2, l3, l4, some (.int x), l6] (.int x :: S) σ := r_iload dX12_readsExpression_106 rfl
theorem eX12_readsExpression_108 : am_lim call mX12_readsExpression 108 [l0, l1, l2, l3, l4, l5, l6] (S) σ = am_lim call mX12_readsExpression 109 [l0, l1, l2, l3, l4, l5, l6] (.int 1 :: S) σ := r_iconst dX12_readsExpression_108 (by decide)
theorem eX12_readsExpression_109 : am_lim call mX12_readsExpression 109 [l0, l1, some (.int x), l3, l4, l5, l6] (S) σ = am_lim call mX12_readsExpression 110 [l0, l1, some (.int x), l3, l4, l5, l6] (.int x :: S) σ := r_iload_n dX12_readsExpression_109 rfl
theorem eX12_readsExpression_110 : am_lim call mX12_readsExpression 110 [l0, l1, l2, l3, l4, l5, l6] (S) σ = am_lim call mX12_readsExpression 112 [l0, l1, l2, l3, l4, l5, l6] (.int 84 :: S) σ := r_bipush dX12_readsExpression_110 (by decide)
theorem eX12_readsExpression_112 : am_lim call mX12_readsExpression 112 [l0, l1, l2, l3, l4, l5, l6] (.int y :: .int x :: S) σ = if x ≠ y then am_lim call mX12_readsExpression 119 [l0, l1, l2, l3, l4, l5, l6] (S) σ else am_lim call mX12_readsExpression 115 [l0, l1, l2, l3, l4, l5, l6] (S) σ := r_icmpB 119 dX12_readsExpression_112 (by decide) rfl
theorem eX12_readsExpression_115 : am_lim call mX12_readsExpression 115 [l0, l1, l2, l3, l4, l5, l6] (S) σ = am_lim call mX12_readsExpression 116 [l0, l1, l2, l3, l4, l5, l6] (.int 1 :: S) σ := r_iconst dX12_readsExpression_115 (by decide)
theorem eX12_readsExpression_116 : am_lim call mX12_readsExpression 116 [l0, l1, l2, l3, l4, l5, l6] (S) σ = am_lim call mX12_readsExpression 120 [l0, l1, l2, l3, l4, l5, l6] (S) σ := r_goto 120 dX12_readsExpression_116 (by decide)
theorem eX12_readsExpression_120 (h : g_o σ b 12) : am_lim call mX12_readsExpression 120 [l0, l1, l2, l3, l4, l5, l6] (.int v2 :: .int v1 :: .int v0 :: .ref b :: []) σ = am_k (call mX12_puts_ [.ref b, .int v0, .int v1, .int v2] σ) (fun r σ1 => am_lim call mX12_readsExpression 123 [l0, l1, l2, l3, l4, l5, l6] (r.toList ++ []) σ1) := r_kV (S1 := [.int v2, .int v1, .int v0]) dX12_readsExpression_120 mt_12_176 rfl h (Nat.le_of_ble_eq_true rfl)
theorem eX12_readsExpression_119 : am_lim call mX12_readsExpression 119 [l0, l1, l2, l3, l4, l5, l6] (S) σ = am_lim call mX12_readsExpression 120 [l0, l1, l2, l3, l4, l5, l6] (.int 0 :: S) σ := r_iconst dX12_readsExpression_119 (by decide)
theorem eX12_readsExpression_123 : am_lim call mX12_readsExpression 123 [l0, l1, l2, l3, some (.int x), l5, l6] (S) σ = am_lim call mX12_readsExpression 125 [l0, l1, l2, l3, some (.int x), l5, l6] (.int x :: S) σ := r_iload dX12_readsExpression_123 rfl
theorem eX12_readsExpression_125 : am_lim call mX12_readsExpression 125 [l0, l1, l2, l3, l4, l5, l6] (S) σ = am_lim call mX12_readsExpression 126 [l0, l1, l2, l3, l4, l5, l6] (.int 4 :: S) σ := r_iconst dX12_readsExpression_125 (by decide)
theorem eX12_readsExpression_126 : am_lim call mX12_readsExpression 126 [l0, l1, l2, l3, l4, l5, l6] (.int y :: .int x :: S) σ = if x = y then am_lim call mX12_readsExpression 136 [l0, l1, l2, l3, l4, l5, l6] (S) σ else am_lim call mX12_readsExpression 129 [l0, l1, l2, l3, l4, l5, l6] (S) σ := r_icmpB 136 dX12_readsExpression_126 (by decide) rfl
theorem eX12_readsExpression_129 : am_lim call mX12_readsExpression 129 [l0, l1, l2, l3, some (.int x), l5, l6] (S) σ = am_lim call mX12_readsExpression 131 [l0, l1, l2, l3, some (.int x), l5, l6] (.int x :: S) σ := r_iload dX12_readsExpression_129 rfl
theorem eX12_readsExpression_131 : am_lim call mX12_readsExpression 131 [l0, l1, l2, l3, l4, l5, l6] (S) σ = am_lim call mX12_readsExpression 133 [l0, l1, l2, l3, l4, l5, l6] (.int 7 :: S) σ := r_bipush dX12_readsExpression_131 (by decide)
theorem eX12_readsExpression_133 : am_lim call mX12_readsExpression 133 [l0, l1, l2, l3, l4, l5, l6] (.int y :: .int x :: S) σ = if x ≠ y then am_lim call mX12_readsExpression 147 [l0, l1, l2, l3, l4, l5, l6] (S) σ else am_lim call mX12_readsExpression 136 [l0, l1, l2, l3, l4, l5, l6] (S) σ := r_icmpB 147 dX12_readsExpression_133 (by decide) rfl
theorem eX12_readsExpression_147 : am_lim call mX12_readsExpression 147 [l0, l1, l2, l3, l4, l5, l6] (S) σ = am_lim call mX12_readsExpression 148 [l0, l1, l2, l3, l4, l5, l6] (.int 0 :: S) σ := r_iconst dX12_readsExpression_147 (by decide)
theorem eX12_readsExpression_148 : am_lim call mX12_readsExpression 148 [l0, l1, l2, l3, l4, l5, l6] (.int x :: S) σ = am_lim call mX12_readsExpression 150 [l0, l1, l2, l3, l4, l5, some (.int x)] (S) σ := r_istore dX12_readsExpression_148 rfl rfl rfl rfl
theorem eX12_readsExpression_150 : am_lim call mX12_readsExpression 150 [l0, l1, l2, l3, l4, l5, some (.int x)] (S) σ = am_lim call mX12_readsExpression 152 [l0, l1, l2, l3, l4, l5, some (.int x)] (.int x :: S) σ := r_iload dX12_readsExpression_150 rfl
theorem eX12_readsExpression_152 : am_lim call mX12_readsExpression 152 [l0, l1, l2, l3, some (.int x), l5, l6] (S) σ = am_lim call mX12_readsExpression 154 [l0, l1, l2, l3, some (.int x), l5, l6] (.int x :: S) σ := r_iload dX12_readsExpression_152 rfl
theorem eX12_readsExpression_154 : am_lim call mX12_readsExpression 154 [l0, l1, l2, l3, l4, l5, l6] (.int v0 :: .int s0 :: []) σ = am_k (call mX12_parts [.int v0] σ) (fun r σ1 => am_lim call mX12_readsExpression 157 [l0, l1, l2, l3, l4, l5, l6] (r.toList ++ .int s0 :: []) σ1) := r_kS (S1 := [.int v0]) dX12_readsExpression_154 ⟨rfl, rfl, rfl⟩ mt_12_179 rfl (Nat.le_of_ble_eq_true rfl)
theorem eX12_readsExpression_157 : am_lim call mX12_readsExpression 157 [l0, l1, l2, l3, l4, l5, l6] (.int y :: .int x :: S) σ = if y ≤ x then am_lim call mX12_readsExpression 183 [l0, l1, l2, l3, l4, l5, l6] (S) σ else am_lim call mX12_readsExpression 160 [l0, l1, l2, l3, l4, l5, l6] (S) σ := r_icmpB 183 dX12_readsExpression_157 (by decide) rfl
theorem eX12_readsExpression_160 : am_lim call mX12_readsExpression 160 [some (.ref a), l1, l2, l3, l4, l5, l6] (S) σ = am_lim call mX12_readsExpression 161 [some (.ref a), l1, l2, l3, l4, l5, l6] (.ref a :: S) σ := r_aload_n dX12_readsExpression_160 rfl
theorem eX12_readsExpression_161 : am_lim call mX12_readsExpression 161 [l0, l1, l2, l3, l4, some (.int x), l6] (S) σ = am_lim call mX12_readsExpression 163 [l0, l1, l2, l3, l4, some (.int x), l6] (.int x :: S) σ := r_iload dX12_readsExpression_161 rfl
theorem eX12_readsExpression_163 : am_lim call mX12_readsExpression 163 [l0, l1, l2, l3, l4, l5, l6] (S) σ = am_lim call mX12_readsExpression 164 [l0, l1, l2, l3, l4, l5, l6] (.int 2 :: S) σ := r_iconst dX12_readsExpression_163 (by decide)
theorem eX12_readsExpression_164 : am_lim call mX12_readsExpression 164 [l0, l1, l2, l3, l4, l5, some (.int x)] (S) σ = am_lim call mX12_readsExpression 166 [l0, l1, l2, l3, l4, l5, some (.int x)] (.int x :: S) σ := r_iload dX12_readsExpression_164 rfl
theorem eX12_readsExpression_166 : am_lim call mX12_readsExpression 166 [l0, l1, l2, l3, l4, l5, l6] (.int y :: .int x :: S) σ = am_lim call mX12_readsExpression 167 [l0, l1, l2, l3, l4, l5, l6] (.int (x + y) :: S) σ := r_iadd dX12_readsExpression_166
theorem eX12_readsExpression_167 : am_lim call mX12_readsExpression 167 [some (.ref a), l1, l2, l3, l4, l5, l6] (S) σ = am_lim call mX12_readsExpression 168 [some (.ref a), l1, l2, l3, l4, l5, l6] (.ref a :: S) σ := r_aload_n dX12_readsExpression_167 rfl
theorem eX12_readsExpression_168 : am_lim call mX12_readsExpression 168 [l0, some (.int x), l2, l3, l4, l5, l6] (S) σ = am_lim call mX12_readsExpression 169 [l0, some (.int x), l2, l3, l4, l5, l6] (.int x :: S) σ := r_iload_n dX12_readsExpression_168 rfl
theorem eX12_readsExpression_169 : am_lim call mX12_readsExpression 169 [l0, l1, l2, l3, l4, l5, l6] (S) σ = am_lim call mX12_readsExpression 170 [l0, l1, l2, l3, l4, l5, l6] (.int 1 :: S) σ := r_iconst dX12_readsExpression_169 (by decide)
theorem eX12_readsExpression_170 : am_lim call mX12_readsExpression 170 [l0, l1, l2, l3, l4, l5, l6] (.int y :: .int x :: S) σ = am_lim call mX12_readsExpression 171 [l0, l1, l2, l3, l4, l5, l6] (.int (x + y) :: S) σ := r_iadd dX12_readsExpression_170
theorem eX12_readsExpression_171 (h : g_o σ b 12) : am_lim call mX12_readsExpression 171 [l0, l1, l2, l3, l4, l5, l6] (.int v0 :: .ref b :: .int s0 :: .int s1 :: .ref q2 :: []) σ = am_k (call mX12_readsExpression [.ref b, .int v0] σ) (fun r σ1 => am_lim call mX12_readsExpression 174 [l0, l1, l2, l3, l4, l5, l6] (r.toList ++ .int s0 :: .int s1 :: .ref q2 :: []) σ1) := r_kV (S1 := [.int v0]) dX12_readsExpression_171 mt_12_182 rfl h (Nat.le_of_ble_eq_true rfl)
theorem eX12_readsExpression_174 (h : g_o σ b 12) : am_lim call mX12_readsExpression 174 [l0, l1, l2, l3, l4, l5, l6] (.int v2 :: .int v1 :: .int v0 :: .ref b :: []) σ = am_k (call mX12_puts_ [.ref b, .int v0, .int v1, .int v2] σ) (fun r σ1 => am_lim call mX12_readsExpression 177 [l0, l1, l2, l3, l4, l5, l6] (r.toList ++ []) σ1) := r_kV (S1 := [.int v2, .int v1, .int v0]) dX12_readsExpression_174 mt_12_176 rfl h (Nat.le_of_ble_eq_true rfl)
theorem eX12_readsExpression_177 : am_lim call mX12_readsExpression 177 [l0, l1, l2, l3, l4, l5, some (.int x)] (S) σ = am_lim call mX12_readsExpression 180 [l0, l1, l2, l3, l4, l5, some (.int (x + 1))] (S) σ := r_iinc dX12_readsExpression_177 rfl (by decide) rfl rfl rfl rfl
theorem eX12_readsExpression_180 : am_lim call mX12_readsExpression 180 [l0, l1, l2, l3, l4, l5, l6] (S) σ = am_lim call mX12_readsExpression 150 [l0, l1, l2, l3, l4, l5, l6] (S) σ := r_goto 150 dX12_readsExpression_180 (by decide)
theorem eX12_readsExpression_183 : am_lim call mX12_readsExpression 183 [l0, l1, l2, l3, some (.int x), l5, l6] (S) σ = am_lim call mX12_readsExpression 185 [l0, l1, l2, l3, some (.int x), l5, l6] (.int x :: S) σ := r_iload dX12_readsExpression_183 rfl
theorem eX12_readsExpression_185 : am_lim call mX12_readsExpression 185 [l0, l1, l2, l3, l4, l5, l6] (S) σ = am_lim call mX12_readsExpression 187 [l0, l1, l2, l3, l4, l5, l6] (.int 6 :: S) σ := r_bipush dX12_readsExpression_185 (by decide)
theorem eX12_readsExpression_187 : am_lim call mX12_readsExpression 187 [l0, l1, l2, l3, l4, l5, l6] (.int y :: .int x :: S) σ = if x ≠ y then am_lim call mX12_readsExpression 209 [l0, l1, l2, l3, l4, l5, l6] (S) σ else am_lim call mX12_readsExpression 190 [l0, l1, l2, l3, l4, l5, l6] (S) σ := r_icmpB 209 dX12_readsExpression_187 (by decide) rfl
theorem eX12_readsExpression_190 : am_lim call mX12_readsExpression 190 [some (.ref a), l1, l2, l3, l4, l5, l6] (S) σ = am_lim call mX12_readsExpression 191 [some (.ref a), l1, l2, l3, l4, l5, l6] (.ref a :: S) σ := r_aload_n dX12_readsExpression_190 rfl
theorem eX12_readsExpression_191 : am_lim call mX12_readsExpression 191 [l0, l1, l2, l3, l4, some (.int x), l6] (S) σ = am_lim call mX12_readsExpression 193 [l0, l1, l2, l3, l4, some (.int x), l6] (.int x :: S) σ := r_iload dX12_readsExpression_191 rfl
theorem eX12_readsExpression_193 : am_lim call mX12_readsExpression 193 [l0, l1, l2, l3, l4, l5, l6] (S) σ = am_lim call mX12_readsExpression 194 [l0, l1, l2, l3, l4, l5, l6] (.int 1 :: S) σ := r_iconst dX12_readsExpression_193 (by decide)
theorem eX12_readsExpression_194 : am_lim call mX12_readsExpression 194 [some (.ref a), l1, l2, l3, l4, l5, l6] (S) σ = am_lim call mX12_readsExpression 195 [some (.ref a), l1, l2, l3, l4, l5, l6] (.ref a :: S) σ := r_aload_n dX12_readsExpression_194 rfl
theorem eX12_readsExpression_195 (h : g_o σ a 12) : am_lim call mX12_readsExpression 195 [l0, l1, l2, l3, l4, l5, l6] (.ref a :: S) σ = am_lim call mX12_readsExpression 198 [l0, l1, l2, l3, l4, l5, l6] (.int (g_I σ a 6) :: S) σ := r_getI dX12_readsExpression_195 f_12_137 rfl h
theorem eX12_readsExpression_198 (h : g_o σ b 12) : am_lim call mX12_readsExpression 198 [l0, l1, l2, l3, l4, l5, l6] (.int v2 :: .int v1 :: .int v0 :: .ref b :: []) σ = am_k (call mX12_puts_ [.ref b, .int v0, .int v1, .int v2] σ) (fun r σ1 => am_lim call mX12_readsExpression 201 [l0, l1, l2, l3, l4, l5, l6] (r.toList ++ []) σ1) := r_kV (S1 := [.int v2, .int v1, .int v0]) dX12_readsExpression_198 mt_12_176 rfl h (Nat.le_of_ble_eq_true rfl)
theorem eX12_readsExpression_201 : am_lim call mX12_readsExpression 201 [some (.ref a), l1, l2, l3, l4, l5, l6] (S) σ = am_lim call mX12_readsExpression 202 [some (.ref a), l1, l2, l3, l4, l5, l6] (.ref a :: S) σ := r_aload_n dX12_readsExpression_201 rfl
theorem eX12_readsExpression_202 : am_lim call mX12_readsExpression 202 [l0, some (.int x), l2, l3, l4, l5, l6] (S) σ = am_lim call mX12_readsExpression 203 [l0, some (.int x), l2, l3, l4, l5, l6] (.int x :: S) σ := r_iload_n dX12_readsExpression_202 rfl
theorem eX12_readsExpression_203 : am_lim call mX12_readsExpression 203 [l0, l1, l2, l3, l4, l5, l6] (S) σ = am_lim call mX12_readsExpression 204 [l0, l1, l2, l3, l4, l5, l6] (.int 1 :: S) σ := r_iconst dX12_readsExpression_203 (by decide)
theorem eX12_readsExpression_204 : am_lim call mX12_readsExpression 204 [l0, l1, l2, l3, l4, l5, l6] (.int y :: .int x :: S) σ = am_lim call mX12_readsExpression 205 [l0, l1, l2, l3, l4, l5, l6] (.int (x + y) :: S) σ := r_iadd dX12_readsExpression_204
theorem eX12_readsExpression_205 : am_lim call mX12_readsExpression 205 [l0, l1, l2, l3, l4, l5, l6] (S) σ = am_lim call mX12_readsExpression 206 [l0, l1, l2, l3, l4, l5, l6] (.int 0 :: S) σ := r_iconst dX12_readsExpression_205 (by decide)
theorem eX12_readsExpression_206 (h : g_o σ b 12) : am_lim call mX12_readsExpression 206 [l0, l1, l2, l3, l4, l5, l6] (.int v1 :: .int v0 :: .ref b :: []) σ = am_k (call mX12_readsType [.ref b, .int v0, .int v1] σ) (fun r σ1 => am_lim call mX12_readsExpression 209 [l0, l1, l2, l3, l4, l5, l6] (r.toList ++ []) σ1) := r_kV (S1 := [.int v1, .int v0]) dX12_readsExpression_206 mt_12_153 rfl h (Nat.le_of_ble_eq_true rfl)
theorem eX12_readsExpression_209 : am_lim call mX12_readsExpression 209 [l0, l1, l2, l3, l4, some (.int x), l6] (S) σ = am_lim call mX12_readsExpression 211 [l0, l1, l2, l3, l4, some (.int x), l6] (.int x :: S) σ := r_iload dX12_readsExpression_209 rfl
theorem eX12_readsExpression_211 : am_lim call mX12_readsExpression 211 [l0, l1, l2, l3, l4, l5, l6] ([.int x]) σ = some (some (.int x), σ) := r_retI dX12_readsExpression_211 rfl
theorem eX12_readsExpression_136 : am_lim call mX12_readsExpression 136 [some (.ref a), l1, l2, l3, l4, l5, l6] (S) σ = am_lim call mX12_readsExpression 137 [some (.ref a), l1, l2, l3, l4, l5, l6] (.ref a :: S) σ := r_aload_n dX12_readsExpression_136 rfl
theorem eX12_readsExpression_137 : am_lim call mX12_readsExpression 137 [l0, l1, l2, l3, l4, some (.int x), l6] (S) σ = am_lim call mX12_readsExpression 139 [l0, l1, l2, l3, l4, some (.int x), l6] (.int x :: S) σ := r_iload dX12_readsExpression_137 rfl
theorem eX12_readsExpression_139 : am_lim call mX12_readsExpression 139 [l0, l1, l2, l3, l4, l5, l6] (S) σ = am_lim call mX12_readsExpression 140 [l0, l1, l2, l3, l4, l5, l6] (.int 1 :: S) σ := r_iconst dX12_readsExpression_139 (by decide)
theorem eX12_readsExpression_140 : am_lim call mX12_readsExpression 140 [some (.ref a), l1, l2, l3, l4, l5, l6] (S) σ = am_lim call mX12_readsExpression 141 [some (.ref a), l1, l2, l3, l4, l5, l6] (.ref a :: S) σ := r_aload_n dX12_readsExpression_140 rfl
theorem eX12_readsExpression_141 (h : g_o σ b 12) : am_lim call mX12_readsExpression 141 [l0, l1, l2, l3, l4, l5, l6] (.ref b :: .int s0 :: .int s1 :: .ref q2 :: []) σ = am_k (call mX12_letter [.ref b] σ) (fun r σ1 => am_lim call mX12_readsExpression 144 [l0, l1, l2, l3, l4, l5, l6] (r.toList ++ .int s0 :: .int s1 :: .ref q2 :: []) σ1) := r_kV (S1 := []) dX12_readsExpression_141 mt_12_157 rfl h (Nat.le_of_ble_eq_true rfl)
theorem eX12_readsExpression_144 (h : g_o σ b 12) : am_lim call mX12_readsExpression 144 [l0, l1, l2, l3, l4, l5, l6] (.int v2 :: .int v1 :: .int v0 :: .ref b :: []) σ = am_k (call mX12_puts_ [.ref b, .int v0, .int v1, .int v2] σ) (fun r σ1 => am_lim call mX12_readsExpression 147 [l0, l1, l2, l3, l4, l5, l6] (r.toList ++ []) σ1) := r_kV (S1 := [.int v2, .int v1, .int v0]) dX12_readsExpression_144 mt_12_176 rfl h (Nat.le_of_ble_eq_true rfl)
theorem eX12_readsExpression_38 : am_lim call mX12_readsExpression 38 [some (.ref a), l1, l2, l3, l4, l5, l6] (S) σ = am_lim call mX12_readsExpression 39 [some (.ref a), l1, l2, l3, l4, l5, l6] (.ref a :: S) σ := r_aload_n dX12_readsExpression_38 rfl
theorem eX12_readsExpression_39 : am_lim call mX12_readsExpression 39 [l0, l1, l2, some (.int x), l4, l5, l6] (S) σ = am_lim call mX12_readsExpression 40 [l0, l1, l2, some (.int x), l4, l5, l6] (.int x :: S) σ := r_iload_n dX12_readsExpression_39 rfl
theorem eX12_readsExpression_40 (h : g_o σ b 12) : am_lim call mX12_readsExpression 40 [l0, l1, l2, l3, l4, l5, l6] (.int v0 :: .ref b :: []) σ = am_k (call mX12_fails [.ref b, .int v0] σ) (fun r σ1 => am_lim call mX12_readsExpression 43 [l0, l1, l2, l3, l4, l5, l6] (r.toList ++ []) σ1) := r_kV (S1 := [.int v0]) dX12_readsExpression_40 mt_12_147 rfl h (Nat.le_of_ble_eq_true rfl)
theorem eX12_readsExpression_43 : am_lim call mX12_readsExpression 43 [l0, l1, l2, l3, l4, l5, l6] ([.int x]) σ = some (some (.int x), σ) := r_retI dX12_readsExpression_43 rfl
theorem nX12_readsExpression {d : Nat} : am_run (d + 1) mX12_readsExpression [.ref b, .int v0] σ = am_lim (am_run d) mX12_readsExpression 0 [some (.ref b), some (.int v0), none, none, none, none, none] [] σ := am_run_S rfl rfl rfl rfl
theorem dX12_look_0 : decode cX12_look 0 = .ok (.aload_n 0, 1) := by decide +kernel
theorem dX12_look_1 : decode cX12_look 1 = .ok (.invokevirtual 130, 3) := by decide +kernel
theorem dX12_look_4 : decode cX12_look 4 = .ok (.bipush 32, 2) := by decide +kernel
theorem dX12_look_6 : decode cX12_look 6 = .ok (.if_icmp .ne 16, 3) := by decide +kernel
theorem dX12_look_9 : decode cX12_look 9 = .ok (.aload_n 0, 1) := by decide +kernel
theorem dX12_look_10 : decode cX12_look 10 = .ok (.dup, 1) := by decide +kernel
theorem dX12_look_11 : decode cX12_look 11 = .ok (.getfield 127, 3) := by decide +kernel
theorem dX12_look_14 : decode cX12_look 14 = .ok (.iconst 1, 1) := by decide +kernel
theorem dX12_look_15 : decode cX12_look 15 = .ok (.iadd, 1) := by decide +kernel
theorem dX12_look_16 : decode cX12_look 16 = .ok (.putfield 127, 3) := by decide +kernel
theorem dX12_look_19 : decode cX12_look 19 = .ok (.goto (-19), 3) := by decide +kernel
theorem dX12_look_22 : decode cX12_look 22 = .ok (.aload_n 0, 1) := by decide +kernel
theorem dX12_look_23 : decode cX12_look 23 = .ok (.invokevirtual 130, 3) := by decide +kernel
theorem dX12_look_26 : decode cX12_look 26 = .ok (.ireturn, 1) := by decide +kernel
theorem eX12_look_0 : am_lim call mX12_look 0 [some (.ref a)] (S) σ = am_lim call mX12_look 1 [some (.ref a)] (.ref a :: S) σ := r_aload_n dX12_look_0 rfl
theorem eX12_look_1 (h : g_o σ b 12) : am_lim call mX12_look 1 [l0] (.ref b :: []) σ = am_k (call mX12_here [.ref b] σ) (fun r σ1 => am_lim call mX12_look 4 [l0] (r.toList ++ []) σ1) := r_kV (S1 := []) dX12_look_1 mt_12_130 rfl h (Nat.le_of_ble_eq_true rfl)
theorem eX12_look_4 : am_lim call mX12_look 4 [l0] (S) σ = am_lim call mX12_look 6 [l0] (.int 32 :: S) σ := r_bipush dX12_look_4 (by decide)
theorem eX12_look_6 : am_lim call mX12_look 6 [l0] (.int y :: .int x :: S) σ = if x ≠ y then am_lim call mX12_look 22 [l0] (S) σ else am_lim call mX12_look 9 [l0] (S) σ := r_icmpB 22 dX12_look_6 (by decide) rfl
theorem eX12_look_9 : am_lim call mX12_look 9 [some (.ref a)] (S) σ = am_lim call mX12_look 10 [some (.ref a)] (.ref a :: S) σ := r_aload_n dX12_look_9 rfl
theorem eX12_look_10 : am_lim call mX12_look 10 [l0] (.ref a :: S) σ = am_lim call mX12_look 11 [l0] (.ref a :: .ref a :: S) σ := r_dupA dX12_look_10
theorem eX12_look_11 (h : g_o σ a 12) : am_lim call mX12_look 11 [l0] (.ref a :: S) σ = am_lim call mX12_look 14 [l0] (.int (g_I σ a 3) :: S) σ := r_getI dX12_look_11 f_12_127 rfl h
theorem eX12_look_14 : am_lim call mX12_look 14 [l0] (S) σ = am_lim call mX12_look 15 [l0] (.int 1 :: S) σ := r_iconst dX12_look_14 (by decide)
theorem eX12_look_15 : am_lim call mX12_look 15 [l0] (.int y :: .int x :: S) σ = am_lim call mX12_look 16 [l0] (.int (x + y) :: S) σ := r_iadd dX12_look_15
theorem eX12_look_16 (h : g_o σ a 12) : am_lim call mX12_look 16 [l0] (.int x :: .ref a :: S) σ = am_lim call mX12_look 19 [l0] (S) (am_sI σ a 3 x) := r_putI dX12_look_16 f_12_127 rfl rfl h
theorem eX12_look_19 : am_lim call mX12_look 19 [l0] (S) σ = am_lim call mX12_look 0 [l0] (S) σ := r_goto 0 dX12_look_19 (by decide)
theorem eX12_look_22 : am_lim call mX12_look 22 [some (.ref a)] (S) σ = am_lim call mX12_look 23 [some (.ref a)] (.ref a :: S) σ := r_aload_n dX12_look_22 rfl
theorem eX12_look_23 (h : g_o σ b 12) : am_lim call mX12_look 23 [l0] (.ref b :: []) σ = am_k (call mX12_here [.ref b] σ) (fun r σ1 => am_lim call mX12_look 26 [l0] (r.toList ++ []) σ1) := r_kV (S1 := []) dX12_look_23 mt_12_130 rfl h (Nat.le_of_ble_eq_true rfl)
theorem eX12_look_26 : am_lim call mX12_look 26 [l0] ([.int x]) σ = some (some (.int x), σ) := r_retI dX12_look_26 rfl
theorem nX12_look {d : Nat} : am_run (d + 1) mX12_look [.ref b] σ = am_lim (am_run d) mX12_look 0 [some (.ref b)] [] σ := am_run_S rfl rfl rfl rfl
theorem dX12_here_0 : decode cX12_here 0 = .ok (.aload_n 0, 1) := by decide +kernel
theorem dX12_here_1 : decode cX12_here 1 = .ok (.getfield 127, 3) := by decide +kernel
theorem dX12_here_4 : decode cX12_here 4 = .ok (.aload_n 0, 1) := by decide +kernel
theorem dX12_here_5 : decode cX12_here 5 = .ok (.getfield 116, 3) := by decide +kernel
theorem dX12_here_8 : decode cX12_here 8 = .ok (.if_icmp .ge 19, 3) := by decide +kernel
theorem dX12_here_11 : decode cX12_here 11 = .ok (.aload_n 0, 1) := by decide +kernel
theorem dX12_here_12 : decode cX12_here 12 = .ok (.getfield 9, 3) := by decide +kernel
theorem dX12_here_15 : decode cX12_here 15 = .ok (.aload_n 0, 1) := by decide +kernel
theorem dX12_here_16 : decode cX12_here 16 = .ok (.getfield 127, 3) := by decide +kernel
theorem dX12_here_19 : decode cX12_here 19 = .ok (.baload, 1) := by decide +kernel
theorem dX12_here_20 : decode cX12_here 20 = .ok (.sipush 255, 3) := by decide +kernel
theorem dX12_here_23 : decode cX12_here 23 = .ok (.iand, 1) := by decide +kernel
theorem dX12_here_24 : decode cX12_here 24 = .ok (.goto 4, 3) := by decide +kernel
theorem dX12_here_27 : decode cX12_here 27 = .ok (.iconst (-1), 1) := by decide +kernel
theorem dX12_here_28 : decode cX12_here 28 = .ok (.ireturn, 1) := by decide +kernel
theorem eX12_here_0 : am_lim call mX12_here 0 [some (.ref a)] (S) σ = am_lim call mX12_here 1 [some (.ref a)] (.ref a :: S) σ := r_aload_n dX12_here_0 rfl
theorem eX12_here_1 (h : g_o σ a 12) : am_lim call mX12_here 1 [l0] (.ref a :: S) σ = am_lim call mX12_here 4 [l0] (.int (g_I σ a 3) :: S) σ := r_getI dX12_here_1 f_12_127 rfl h
theorem eX12_here_4 : am_lim call mX12_here 4 [some (.ref a)] (S) σ = am_lim call mX12_here 5 [some (.ref a)] (.ref a :: S) σ := r_aload_n dX12_here_4 rfl
theorem eX12_here_5 (h : g_o σ a 12) : am_lim call mX12_here 5 [l0] (.ref a :: S) σ = am_lim call mX12_here 8 [l0] (.int (g_I σ a 2) :: S) σ := r_getI dX12_here_5 f_12_116 rfl h
theorem eX12_here_8 : am_lim call mX12_here 8 [l0] (.int y :: .int x :: S) σ = if y ≤ x then am_lim call mX12_here 27 [l0] (S) σ else am_lim call mX12_here 11 [l0] (S) σ := r_icmpB 27 dX12_here_8 (by decide) rfl
theorem eX12_here_11 : am_lim call mX12_here 11 [some (.ref a)] (S) σ = am_lim call mX12_here 12 [some (.ref a)] (.ref a :: S) σ := r_aload_n dX12_here_11 rfl
theorem eX12_here_12 (h : g_o σ a 12) : am_lim call mX12_here 12 [l0] (.ref a :: S) σ = am_lim call mX12_here 15 [l0] (va_rf (g_R σ a 1) :: S) σ := r_getR dX12_here_12 f_12_9 rfl h
theorem eX12_here_15 : am_lim call mX12_here 15 [some (.ref a)] (S) σ = am_lim call mX12_here 16 [some (.ref a)] (.ref a :: S) σ := r_aload_n dX12_here_15 rfl
theorem eX12_here_16 (h : g_o σ a 12) : am_lim call mX12_here 16 [l0] (.ref a :: S) σ = am_lim call mX12_here 19 [l0] (.int (g_I σ a 3) :: S) σ := r_getI dX12_here_16 f_12_127 rfl h
theorem eX12_here_19 {n : Nat} (h : g_b σ a n) (hi : am_in x n) : am_lim call mX12_here 19 [l0] (.int x :: .ref a :: S) σ = am_lim call mX12_here 20 [l0] (.int (g_I σ a x.toNatClampNeg) :: S) σ := r_bald dX12_here_19 h hi
theorem eX12_here_20 : am_lim call mX12_here 20 [l0] (S) σ = am_lim call mX12_here 23 [l0] (.int 255 :: S) σ := r_sipush dX12_here_20 (by decide)
theorem eX12_here_23 : am_lim call mX12_here 23 [l0] (.int y :: .int x :: S) σ = am_lim call mX12_here 24 [l0] (.int (x &&& y) :: S) σ := r_iand dX12_here_23
theorem eX12_here_24 : am_lim call mX12_here 24 [l0] (S) σ = am_lim call mX12_here 28 [l0] (S) σ := r_goto 28 dX12_here_24 (by decide)
theorem eX12_here_28 : am_lim call mX12_here 28 [l0] ([.int x]) σ = some (some (.int x), σ) := r_retI dX12_here_28 rfl
theorem eX12_here_27 : am_lim call mX12_here 27 [l0] (S) σ = am_lim call mX12_here 28 [l0] (.int (-1) :: S) σ := r_iconst dX12_here_27 (by decide)
theorem nX12_here {d : Nat} : am_run (d + 1) mX12_here [.ref b] σ = am_lim (am_run d) mX12_here 0 [some (.ref b)] [] σ := am_run_S rfl rfl rfl rfl
theorem dX12_kindOf_0 : decode cX12_kindOf 0 = .ok (.iload_n 0, 1) := by decide +kernel
theorem dX12_kindOf_1 : decode cX12_kindOf 1 = .ok (.lookupswitch 147 #[(38, 126), (42, 117), (43, 141), (44, 132), (47, 119), (58, 123), (60, 144), (63, 129), (64, 121), (84, 115), (85, 115), (91, 135), (93, 138)], 115) := by decide +kernel
theorem dX12_kindOf_116 : decode cX12_kindOf 116 = .ok (.iconst 2, 1) := by decide +kernel
theorem dX12_kindOf_117 : decode cX12_kindOf 117 = .ok (.ireturn, 1) := by decide +kernel
theorem dX12_kindOf_118 : decode cX12_kindOf 118 = .ok (.iconst 3, 1) := by decide +kernel
theorem dX12_kindOf_119 : decode cX12_kindOf 119 = .ok (.ireturn, 1) := by decide +kernel
theorem dX12_kindOf_120 : decode cX12_kindOf 120 = .ok (.iconst 4, 1) := by decide +kernel
theorem dX12_kindOf_121 : decode cX12_kindOf 121 = .ok (.ireturn, 1) := by decide +kernel
theorem dX12_kindOf_122 : decode cX12_kindOf 122 = .ok (.iconst 5, 1) := by decide +kernel
theorem dX12_kindOf_123 : decode cX12_kindOf 123 = .ok (.ireturn, 1) := by decide +kernel
theorem dX12_kindOf_124 : decode cX12_kindOf 124 = .ok (.bipush 6, 2) := by decide +kernel
theorem dX12_kindOf_126 : decode cX12_kindOf 126 = .ok (.ireturn, 1) := by decide +kernel
theorem dX12_kindOf_127 : decode cX12_kindOf 127 = .ok (.bipush 7, 2) := by decide +kernel
theorem dX12_kindOf_129 : decode cX12_kindOf 129 = .ok (.ireturn, 1) := by decide +kernel
theorem dX12_kindOf_130 : decode cX12_kindOf 130 = .ok (.bipush 8, 2) := by decide +kernel
theorem dX12_kindOf_132 : decode cX12_kindOf 132 = .ok (.ireturn, 1) := by decide +kernel
theorem dX12_kindOf_133 : decode cX12_kindOf 133 = .ok (.bipush 9, 2) := by decide +kernel
theorem dX12_kindOf_135 : decode cX12_kindOf 135 = .ok (.ireturn, 1) := by decide +kernel
theorem dX12_kindOf_136 : decode cX12_kindOf 136 = .ok (.bipush 10, 2) := by decide +kernel
theorem dX12_kindOf_138 : decode cX12_kindOf 138 = .ok (.ireturn, 1) := by decide +kernel
theorem dX12_kindOf_139 : decode cX12_kindOf 139 = .ok (.bipush 11, 2) := by decide +kernel
theorem dX12_kindOf_141 : decode cX12_kindOf 141 = .ok (.ireturn, 1) := by decide +kernel
theorem dX12_kindOf_142 : decode cX12_kindOf 142 = .ok (.bipush 12, 2) := by decide +kernel
theorem dX12_kindOf_144 : decode cX12_kindOf 144 = .ok (.ireturn, 1) := by decide +kernel
theorem dX12_kindOf_145 : decode cX12_kindOf 145 = .ok (.bipush 13, 2) := by decide +kernel
theorem dX12_kindOf_147 : decode cX12_kindOf 147 = .ok (.ireturn, 1) := by decide +kernel
theorem dX12_kindOf_148 : decode cX12_kindOf 148 = .ok (.iload_n 0, 1) := by decide +kernel
theorem dX12_kindOf_149 : decode cX12_kindOf 149 = .ok (.invokestatic 143, 3) := by decide +kernel
theorem dX12_kindOf_152 : decode cX12_kindOf 152 = .ok (.ifCond .eq 7, 3) := by decide +kernel
theorem dX12_kindOf_155 : decode cX12_kindOf 155 = .ok (.iconst 0, 1) := by decide +kernel
theorem dX12_kindOf_156 : decode cX12_kindOf 156 = .ok (.goto 15, 3) := by decide +kernel
theorem dX12_kindOf_159 : decode cX12_kindOf 159 = .ok (.iload_n 0, 1) := by decide +kernel
theorem dX12_kindOf_160 : decode cX12_kindOf 160 = .ok (.invokestatic 163, 3) := by decide +kernel
theorem dX12_kindOf_163 : decode cX12_kindOf 163 = .ok (.ifCond .eq 7, 3) := by decide +kernel
theorem dX12_kindOf_166 : decode cX12_kindOf 166 = .ok (.iconst 1, 1) := by decide +kernel
theorem dX12_kindOf_167 : decode cX12_kindOf 167 = .ok (.goto 4, 3) := by decide +kernel
theorem dX12_kindOf_170 : decode cX12_kindOf 170 = .ok (.iconst (-1), 1) := by decide +kernel
theorem dX12_kindOf_171 : decode cX12_kindOf 171 = .ok (.ireturn, 1) := by decide +kernel
theorem eX12_kindOf_0 : am_lim call mX12_kindOf 0 [some (.int x)] (S) σ = am_lim call mX12_kindOf 1 [some (.int x)] (.int x :: S) σ := r_iload_n dX12_kindOf_0 rfl
theorem eX12_kindOf_1_38 : am_lim call mX12_kindOf 1 [l0] (.int 38 :: S) σ = am_lim call mX12_kindOf 127 [l0] (S) σ := r_lkK (off := 126) 127 dX12_kindOf_1 (by decide) (by decide) (by decide)
theorem eX12_kindOf_1_42 : am_lim call mX12_kindOf 1 [l0] (.int 42 :: S) σ = am_lim call mX12_kindOf 118 [l0] (S) σ := r_lkK (off := 117) 118 dX12_kindOf_1 (by decide) (by decide) (by decide)
theorem eX12_kindOf_1_43 : am_lim call mX12_kindOf 1 [l0] (.int 43 :: S) σ = am_lim call mX12_kindOf 142 [l0] (S) σ := r_lkK (off := 141) 142 dX12_kindOf_1 (by decide) (by decide) (by decide)
theorem eX12_kindOf_1_44 : am_lim call mX12_kindOf 1 [l0] (.int 44 :: S) σ = am_lim call mX12_kindOf 133 [l0] (S) σ := r_lkK (off := 132) 133 dX12_kindOf_1 (by decide) (by decide) (by decide)
theorem eX12_kindOf_1_47 : am_lim call mX12_kindOf 1 [l0] (.int 47 :: S) σ = am_lim call mX12_kindOf 120 [l0] (S) σ := r_lkK (off := 119) 120 dX12_kindOf_1 (by decide) (by decide) (by decide)
theorem eX12_kindOf_1_58 : am_lim call mX12_kindOf 1 [l0] (.int 58 :: S) σ = am_lim call mX12_kindOf 124 [l0] (S) σ := r_lkK (off := 123) 124 dX12_kindOf_1 (by decide) (by decide) (by decide)
theorem eX12_kindOf_1_60 : am_lim call mX12_kindOf 1 [l0] (.int 60 :: S) σ = am_lim call mX12_kindOf 145 [l0] (S) σ := r_lkK (off := 144) 145 dX12_kindOf_1 (by decide) (by decide) (by decide)
theorem eX12_kindOf_1_63 : am_lim call mX12_kindOf 1 [l0] (.int 63 :: S) σ = am_lim call mX12_kindOf 130 [l0] (S) σ := r_lkK (off := 129) 130 dX12_kindOf_1 (by decide) (by decide) (by decide)
theorem eX12_kindOf_1_64 : am_lim call mX12_kindOf 1 [l0] (.int 64 :: S) σ = am_lim call mX12_kindOf 122 [l0] (S) σ := r_lkK (off := 121) 122 dX12_kindOf_1 (by decide) (by decide) (by decide)
theorem eX12_kindOf_1_84 : am_lim call mX12_kindOf 1 [l0] (.int 84 :: S) σ = am_lim call mX12_kindOf 116 [l0] (S) σ := r_lkK (off := 115) 116 dX12_kindOf_1 (by decide) (by decide) (by decide)
theorem eX12_kindOf_1_85 : am_lim call mX12_kindOf 1 [l0] (.int 85 :: S) σ = am_lim call mX12_kindOf 116 [l0] (S) σ := r_lkK (off := 115) 116 dX12_kindOf_1 (by decide) (by decide) (by decide)
theorem eX12_kindOf_1_91 : am_lim call mX12_kindOf 1 [l0] (.int 91 :: S) σ = am_lim call mX12_kindOf 136 [l0] (S) σ := r_lkK (off := 135) 136 dX12_kindOf_1 (by decide) (by decide) (by decide)
theorem eX12_kindOf_1_93 : am_lim call mX12_kindOf 1 [l0] (.int 93 :: S) σ = am_lim call mX12_kindOf 139 [l0] (S) σ := r_lkK (off := 138) 139 dX12_kindOf_1 (by decide) (by decide) (by decide)
theorem eX12_kindOf_1_d (h : Op.lookupswitch.offset [(38, 126), (42, 117), (43, 141), (44, 132), (47, 119), (58, 123), (60, 144), (63, 129), (64, 121), (84, 115), (85, 115), (91, 135), (93, 138)] 147 x.toInt = 147) : am_lim call mX12_kindOf 1 [l0] (.int x :: S) σ = am_lim call mX12_kindOf 148 [l0] (S) σ := r_lkD 148 dX12_kindOf_1 (by decide) h (by decide)
theorem eX12_kindOf_148 : am_lim call mX12_kindOf 148 [some (.int x)] (S) σ = am_lim call mX12_kindOf 149 [some (.int x)] (.int x :: S) σ := r_iload_n dX12_kindOf_148 rfl
theorem eX12_kindOf_149 : am_lim call mX12_kindOf 149 [l0] (.int v0 :: []) σ = am_k (call mX12_isLetter [.int v0] σ) (fun r σ1 => am_lim call mX12_kindOf 152 [l0] (r.toList ++ []) σ1) := r_kS (S1 := [.int v0]) dX12_kindOf_149 ⟨rfl, rfl, rfl⟩ mt_12_143 rfl (Nat.le_of_ble_eq_true rfl)
theorem eX12_kindOf_152 : am_lim call mX12_kindOf 152 [l0] (.int x :: S) σ = if x = 0 then am_lim call mX12_kindOf 159 [l0] (S) σ else am_lim call mX12_kindOf 155 [l0] (S) σ := r_ifB 159 dX12_kindOf_152 (by decide) rfl
theorem eX12_kindOf_155 : am_lim call mX12_kindOf 155 [l0] (S) σ = am_lim call mX12_kindOf 156 [l0] (.int 0 :: S) σ := r_iconst dX12_kindOf_155 (by decide)
theorem eX12_kindOf_156 : am_lim call mX12_kindOf 156 [l0] (S) σ = am_lim call mX12_kindOf 171 [l0] (S) σ := r_goto 171 dX12_kindOf_156 (by decide)
theorem eX12_kindOf_171 : am_lim call mX12_kindOf 171 [l0] ([.int x]) σ = some (some (.int x), σ) := r_retI dX12_kindOf_171 rfl
theorem eX12_kindOf_159 : am_lim call mX12_kindOf 159 [some (.int x)] (S) σ = am_lim call mX12_kindOf 160 [some (.int x)] (.int x :: S) σ := r_iload_n dX12_kindOf_159 rfl
theorem eX12_kindOf_160 : am_lim call mX12_kindOf 160 [l0] (.int v0 :: []) σ = am_k (call mX12_isDigit [.int v0] σ) (fun r σ1 => am_lim call mX12_kindOf 163 [l0] (r.toList ++ []) σ1) := r_kS (S1 := [.int v0]) dX12_kindOf_160 ⟨rfl, rfl, rfl⟩ mt_12_163 rfl (Nat.le_of_ble_eq_true rfl)
theorem eX12_kindOf_163 : am_lim call mX12_kindOf 163 [l0] (.int x :: S) σ = if x = 0 then am_lim call mX12_kindOf 170 [l0] (S) σ else am_lim call mX12_kindOf 166 [l0] (S) σ := r_ifB 170 dX12_kindOf_163 (by decide) rfl
theorem eX12_kindOf_166 : am_lim call mX12_kindOf 166 [l0] (S) σ = am_lim call mX12_kindOf 167 [l0] (.int 1 :: S) σ := r_iconst dX12_kindOf_166 (by decide)
theorem eX12_kindOf_167 : am_lim call mX12_kindOf 167 [l0] (S) σ = am_lim call mX12_kindOf 171 [l0] (S) σ := r_goto 171 dX12_kindOf_167 (by decide)
theorem eX12_kindOf_170 : am_lim call mX12_kindOf 170 [l0] (S) σ = am_lim call mX12_kindOf 171 [l0] (.int (-1) :: S) σ := r_iconst dX12_kindOf_170 (by decide)
theorem eX12_kindOf_139 : am_lim call mX12_kindOf 139 [l0] (S) σ = am_lim call mX12_kindOf 141 [l0] (.int 11 :: S) σ := r_bipush dX12_kindOf_139 (by decide)
theorem eX12_kindOf_141 : am_lim call mX12_kindOf 141 [l0] ([.int x]) σ = some (some (.int x), σ) := r_retI dX12_kindOf_141 rfl
theorem eX12_kindOf_136 : am_lim call mX12_kindOf 136 [l0] (S) σ = am_lim call mX12_kindOf 138 [l0] (.int 10 :: S) σ := r_bipush dX12_kindOf_136 (by decide)
theorem eX12_kindOf_138 : am_lim call mX12_kindOf 138 [l0] ([.int x]) σ = some (some (.int x), σ) := r_retI dX12_kindOf_138 rfl
theorem eX12_kindOf_116 : am_lim call mX12_kindOf 116 [l0] (S) σ = am_lim call mX12_kindOf 117 [l0] (.int 2 :: S) σ := r_iconst dX12_kindOf_116 (by decide)
theorem eX12_kindOf_117 : am_lim call mX12_kindOf 117 [l0] ([.int x]) σ = some (some (.int x), σ) := r_retI dX12_kindOf_117 rfl
theorem eX12_kindOf_122 : am_lim call mX12_kindOf 122 [l0] (S) σ = am_lim call mX12_kindOf 123 [l0] (.int 5 :: S) σ := r_iconst dX12_kindOf_122 (by decide)
theorem eX12_kindOf_123 : am_lim call mX12_kindOf 123 [l0] ([.int x]) σ = some (some (.int x), σ) := r_retI dX12_kindOf_123 rfl
theorem eX12_kindOf_130 : am_lim call mX12_kindOf 130 [l0] (S) σ = am_lim call mX12_kindOf 132 [l0] (.int 8 :: S) σ := r_bipush dX12_kindOf_130 (by decide)
theorem eX12_kindOf_132 : am_lim call mX12_kindOf 132 [l0] ([.int x]) σ = some (some (.int x), σ) := r_retI dX12_kindOf_132 rfl
theorem eX12_kindOf_145 : am_lim call mX12_kindOf 145 [l0] (S) σ = am_lim call mX12_kindOf 147 [l0] (.int 13 :: S) σ := r_bipush dX12_kindOf_145 (by decide)
theorem eX12_kindOf_147 : am_lim call mX12_kindOf 147 [l0] ([.int x]) σ = some (some (.int x), σ) := r_retI dX12_kindOf_147 rfl
theorem eX12_kindOf_124 : am_lim call mX12_kindOf 124 [l0] (S) σ = am_lim call mX12_kindOf 126 [l0] (.int 6 :: S) σ := r_bipush dX12_kindOf_124 (by decide)
theorem eX12_kindOf_126 : am_lim call mX12_kindOf 126 [l0] ([.int x]) σ = some (some (.int x), σ) := r_retI dX12_kindOf_126 rfl
theorem eX12_kindOf_120 : am_lim call mX12_kindOf 120 [l0] (S) σ = am_lim call mX12_kindOf 121 [l0] (.int 4 :: S) σ := r_iconst dX12_kindOf_120 (by decide)
theorem eX12_kindOf_121 : am_lim call mX12_kindOf 121 [l0] ([.int x]) σ = some (some (.int x), σ) := r_retI dX12_kindOf_121 rfl
theorem eX12_kindOf_133 : am_lim call mX12_kindOf 133 [l0] (S) σ = am_lim call mX12_kindOf 135 [l0] (.int 9 :: S) σ := r_bipush dX12_kindOf_133 (by decide)
theorem eX12_kindOf_135 : am_lim call mX12_kindOf 135 [l0] ([.int x]) σ = some (some (.int x), σ) := r_retI dX12_kindOf_135 rfl
theorem eX12_kindOf_142 : am_lim call mX12_kindOf 142 [l0] (S) σ = am_lim call mX12_kindOf 144 [l0] (.int 12 :: S) σ := r_bipush dX12_kindOf_142 (by decide)
theorem eX12_kindOf_144 : am_lim call mX12_kindOf 144 [l0] ([.int x]) σ = some (some (.int x), σ) := r_retI dX12_kindOf_144 rfl
theorem eX12_kindOf_118 : am_lim call mX12_kindOf 118 [l0] (S) σ = am_lim call mX12_kindOf 119 [l0] (.int 3 :: S) σ := r_iconst dX12_kindOf_118 (by decide)
theorem eX12_kindOf_119 : am_lim call mX12_kindOf 119 [l0] ([.int x]) σ = some (some (.int x), σ) := r_retI dX12_kindOf_119 rfl
theorem eX12_kindOf_127 : am_lim call mX12_kindOf 127 [l0] (S) σ = am_lim call mX12_kindOf 129 [l0] (.int 7 :: S) σ := r_bipush dX12_kindOf_127 (by decide)
theorem eX12_kindOf_129 : am_lim call mX12_kindOf 129 [l0] ([.int x]) σ = some (some (.int x), σ) := r_retI dX12_kindOf_129 rfl
theorem nX12_kindOf {d : Nat} : am_run (d + 1) mX12_kindOf [.int v0] σ = am_lim (am_run d) mX12_kindOf 0 [some (.int v0)] [] σ := am_run_S rfl rfl rfl rfl
theorem dX12_isLetter_0 : decode cX12_isLetter 0 = .ok (.iload_n 0, 1) := by decide +kernel
theorem dX12_isLetter_1 : decode cX12_isLetter 1 = .ok (.bipush 97, 2) := by decide +kernel
theorem dX12_isLetter_3 : decode cX12_isLetter 3 = .ok (.if_icmp .lt 13, 3) := by decide +kernel
theorem dX12_isLetter_6 : decode cX12_isLetter 6 = .ok (.iload_n 0, 1) := by decide +kernel
theorem dX12_isLetter_7 : decode cX12_isLetter 7 = .ok (.bipush 122, 2) := by decide +kernel
theorem dX12_isLetter_9 : decode cX12_isLetter 9 = .ok (.if_icmp .gt 7, 3) := by decide +kernel
theorem dX12_isLetter_12 : decode cX12_isLetter 12 = .ok (.iconst 1, 1) := by decide +kernel
theorem dX12_isLetter_13 : decode cX12_isLetter 13 = .ok (.goto 4, 3) := by decide +kernel
theorem dX12_isLetter_16 : decode cX12_isLetter 16 = .ok (.iconst 0, 1) := by decide +kernel
theorem dX12_isLetter_17 : decode cX12_isLetter 17 = .ok (.ireturn, 1) := by decide +kernel
theorem eX12_isLetter_0 : am_lim call mX12_isLetter 0 [some (.int x)] (S) σ = am_lim call mX12_isLetter 1 [some (.int x)] (.int x :: S) σ := r_iload_n dX12_isLetter_0 rfl
theorem eX12_isLetter_1 : am_lim call mX12_isLetter 1 [l0] (S) σ = am_lim call mX12_isLetter 3 [l0] (.int 97 :: S) σ := r_bipush dX12_isLetter_1 (by decide)
theorem eX12_isLetter_3 : am_lim call mX12_isLetter 3 [l0] (.int y :: .int x :: S) σ = if x < y then am_lim call mX12_isLetter 16 [l0] (S) σ else am_lim call mX12_isLetter 6 [l0] (S) σ := r_icmpB 16 dX12_isLetter_3 (by decide) rfl
theorem eX12_isLetter_6 : am_lim call mX12_isLetter 6 [some (.int x)] (S) σ = am_lim call mX12_isLetter 7 [some (.int x)] (.int x :: S) σ := r_iload_n dX12_isLetter_6 rfl
theorem eX12_isLetter_7 : am_lim call mX12_isLetter 7 [l0] (S) σ = am_lim call mX12_isLetter 9 [l0] (.int 122 :: S) σ := r_bipush dX12_isLetter_7 (by decide)
theorem eX12_isLetter_9 : am_lim call mX12_isLetter 9 [l0] (.int y :: .int x :: S) σ = if y < x then am_lim call mX12_isLetter 16 [l0] (S) σ else am_lim call mX12_isLetter 12 [l0] (S) σ := r_icmpB 16 dX12_isLetter_9 (by decide) rfl
theorem eX12_isLetter_12 : am_lim call mX12_isLetter 12 [l0] (S) σ = am_lim call mX12_isLetter 13 [l0] (.int 1 :: S) σ := r_iconst dX12_isLetter_12 (by decide)
theorem eX12_isLetter_13 : am_lim call mX12_isLetter 13 [l0] (S) σ = am_lim call mX12_isLetter 17 [l0] (S) σ := r_goto 17 dX12_isLetter_13 (by decide)
theorem eX12_isLetter_17 (hx : x = 0 ∨ x = 1) : am_lim call mX12_isLetter 17 [l0] ([.int x]) σ = some (some (.int x), σ) := r_retZ dX12_isLetter_17 rfl hx
theorem eX12_isLetter_16 : am_lim call mX12_isLetter 16 [l0] (S) σ = am_lim call mX12_isLetter 17 [l0] (.int 0 :: S) σ := r_iconst dX12_isLetter_16 (by decide)
theorem nX12_isLetter {d : Nat} : am_run (d + 1) mX12_isLetter [.int v0] σ = am_lim (am_run d) mX12_isLetter 0 [some (.int v0)] [] σ := am_run_S rfl rfl rfl rfl
theorem dX12_isDigit_0 : decode cX12_isDigit 0 = .ok (.iload_n 0, 1) := by decide +kernel
theorem dX12_isDigit_1 : decode cX12_isDigit 1 = .ok (.bipush 48, 2) := by decide +kernel
theorem dX12_isDigit_3 : decode cX12_isDigit 3 = .ok (.if_icmp .lt 13, 3) := by decide +kernel
theorem dX12_isDigit_6 : decode cX12_isDigit 6 = .ok (.iload_n 0, 1) := by decide +kernel
theorem dX12_isDigit_7 : decode cX12_isDigit 7 = .ok (.bipush 57, 2) := by decide +kernel
theorem dX12_isDigit_9 : decode cX12_isDigit 9 = .ok (.if_icmp .gt 7, 3) := by decide +kernel
theorem dX12_isDigit_12 : decode cX12_isDigit 12 = .ok (.iconst 1, 1) := by decide +kernel
theorem dX12_isDigit_13 : decode cX12_isDigit 13 = .ok (.goto 4, 3) := by decide +kernel
theorem dX12_isDigit_16 : decode cX12_isDigit 16 = .ok (.iconst 0, 1) := by decide +kernel
theorem dX12_isDigit_17 : decode cX12_isDigit 17 = .ok (.ireturn, 1) := by decide +kernel
theorem eX12_isDigit_0 : am_lim call mX12_isDigit 0 [some (.int x)] (S) σ = am_lim call mX12_isDigit 1 [some (.int x)] (.int x :: S) σ := r_iload_n dX12_isDigit_0 rfl
theorem eX12_isDigit_1 : am_lim call mX12_isDigit 1 [l0] (S) σ = am_lim call mX12_isDigit 3 [l0] (.int 48 :: S) σ := r_bipush dX12_isDigit_1 (by decide)
theorem eX12_isDigit_3 : am_lim call mX12_isDigit 3 [l0] (.int y :: .int x :: S) σ = if x < y then am_lim call mX12_isDigit 16 [l0] (S) σ else am_lim call mX12_isDigit 6 [l0] (S) σ := r_icmpB 16 dX12_isDigit_3 (by decide) rfl
theorem eX12_isDigit_6 : am_lim call mX12_isDigit 6 [some (.int x)] (S) σ = am_lim call mX12_isDigit 7 [some (.int x)] (.int x :: S) σ := r_iload_n dX12_isDigit_6 rfl
theorem eX12_isDigit_7 : am_lim call mX12_isDigit 7 [l0] (S) σ = am_lim call mX12_isDigit 9 [l0] (.int 57 :: S) σ := r_bipush dX12_isDigit_7 (by decide)
theorem eX12_isDigit_9 : am_lim call mX12_isDigit 9 [l0] (.int y :: .int x :: S) σ = if y < x then am_lim call mX12_isDigit 16 [l0] (S) σ else am_lim call mX12_isDigit 12 [l0] (S) σ := r_icmpB 16 dX12_isDigit_9 (by decide) rfl
theorem eX12_isDigit_12 : am_lim call mX12_isDigit 12 [l0] (S) σ = am_lim call mX12_isDigit 13 [l0] (.int 1 :: S) σ := r_iconst dX12_isDigit_12 (by decide)
theorem eX12_isDigit_13 : am_lim call mX12_isDigit 13 [l0] (S) σ = am_lim call mX12_isDigit 17 [l0] (S) σ := r_goto 17 dX12_isDigit_13 (by decide)
theorem eX12_isDigit_17 (hx : x = 0 ∨ x = 1) : am_lim call mX12_isDigit 17 [l0] ([.int x]) σ = some (some (.int x), σ) := r_retZ dX12_isDigit_17 rfl hx
theorem eX12_isDigit_16 : am_lim call mX12_isDigit 16 [l0] (S) σ = am_lim call mX12_isDigit 17 [l0] (.int 0 :: S) σ := r_iconst dX12_isDigit_16 (by decide)
theorem nX12_isDigit {d : Nat} : am_run (d + 1) mX12_isDigit [.int v0] σ = am_lim (am_run d) mX12_isDigit 0 [some (.int v0)] [] σ := am_run_S rfl rfl rfl rfl
theorem dX12_fails_0 : decode cX12_fails 0 = .ok (.aload_n 0, 1) := by decide +kernel
theorem dX12_fails_1 : decode cX12_fails 1 = .ok (.getfield 134, 3) := by decide +kernel
theorem dX12_fails_4 : decode cX12_fails 4 = .ok (.iconst (-1), 1) := by decide +kernel
theorem dX12_fails_5 : decode cX12_fails 5 = .ok (.if_icmp .ne 8, 3) := by decide +kernel
theorem dX12_fails_8 : decode cX12_fails 8 = .ok (.aload_n 0, 1) := by decide +kernel
theorem dX12_fails_9 : decode cX12_fails 9 = .ok (.iload_n 1, 1) := by decide +kernel
theorem dX12_fails_10 : decode cX12_fails 10 = .ok (.putfield 134, 3) := by decide +kernel
theorem dX12_fails_13 : decode cX12_fails 13 = .ok (.iconst 0, 1) := by decide +kernel
theorem dX12_fails_14 : decode cX12_fails 14 = .ok (.ireturn, 1) := by decide +kernel
theorem eX12_fails_0 : am_lim call mX12_fails 0 [some (.ref a), l1] (S) σ = am_lim call mX12_fails 1 [some (.ref a), l1] (.ref a :: S) σ := r_aload_n dX12_fails_0 rfl
theorem eX12_fails_1 (h : g_o σ a 12) : am_lim call mX12_fails 1 [l0, l1] (.ref a :: S) σ = am_lim call mX12_fails 4 [l0, l1] (.int (g_I σ a 4) :: S) σ := r_getI dX12_fails_1 f_12_134 rfl h
theorem eX12_fails_4 : am_lim call mX12_fails 4 [l0, l1] (S) σ = am_lim call mX12_fails 5 [l0, l1] (.int (-1) :: S) σ := r_iconst dX12_fails_4 (by decide)
theorem eX12_fails_5 : am_lim call mX12_fails 5 [l0, l1] (.int y :: .int x :: S) σ = if x ≠ y then am_lim call mX12_fails 13 [l0, l1] (S) σ else am_lim call mX12_fails 8 [l0, l1] (S) σ := r_icmpB 13 dX12_fails_5 (by decide) rfl
theorem eX12_fails_8 : am_lim call mX12_fails 8 [some (.ref a), l1] (S) σ = am_lim call mX12_fails 9 [some (.ref a), l1] (.ref a :: S) σ := r_aload_n dX12_fails_8 rfl
theorem eX12_fails_9 : am_lim call mX12_fails 9 [l0, some (.int x)] (S) σ = am_lim call mX12_fails 10 [l0, some (.int x)] (.int x :: S) σ := r_iload_n dX12_fails_9 rfl
theorem eX12_fails_10 (h : g_o σ a 12) : am_lim call mX12_fails 10 [l0, l1] (.int x :: .ref a :: S) σ = am_lim call mX12_fails 13 [l0, l1] (S) (am_sI σ a 4 x) := r_putI dX12_fails_10 f_12_134 rfl rfl h
theorem eX12_fails_13 : am_lim call mX12_fails 13 [l0, l1] (S) σ = am_lim call mX12_fails 14 [l0, l1] (.int 0 :: S) σ := r_iconst dX12_fails_13 (by decide)
theorem eX12_fails_14 : am_lim call mX12_fails 14 [l0, l1] ([.int x]) σ = some (some (.int x), σ) := r_retI dX12_fails_14 rfl
theorem nX12_fails {d : Nat} : am_run (d + 1) mX12_fails [.ref b, .int v0] σ = am_lim (am_run d) mX12_fails 0 [some (.ref b), some (.int v0)] [] σ := am_run_S rfl rfl rfl rfl
theorem dX12_endsText_0 : decode cX12_endsText 0 = .ok (.aload_n 0, 1) := by decide +kernel
theorem dX12_endsText_1 : decode cX12_endsText 1 = .ok (.getfield 134, 3) := by decide +kernel
theorem dX12_endsText_4 : decode cX12_endsText 4 = .ok (.iconst (-1), 1) := by decide +kernel
theorem dX12_endsText_5 : decode cX12_endsText 5 = .ok (.if_icmp .ne 20, 3) := by decide +kernel
theorem dX12_endsText_8 : decode cX12_endsText 8 = .ok (.aload_n 0, 1) := by decide +kernel
theorem dX12_endsText_9 : decode cX12_endsText 9 = .ok (.invokevirtual 140, 3) := by decide +kernel
theorem dX12_endsText_12 : decode cX12_endsText 12 = .ok (.iconst (-1), 1) := by decide +kernel
theorem dX12_endsText_13 : decode cX12_endsText 13 = .ok (.if_icmp .eq 12, 3) := by decide +kernel
theorem dX12_endsText_16 : decode cX12_endsText 16 = .ok (.aload_n 0, 1) := by decide +kernel
theorem dX12_endsText_17 : decode cX12_endsText 17 = .ok (.aload_n 0, 1) := by decide +kernel
theorem dX12_endsText_18 : decode cX12_endsText 18 = .ok (.getfield 127, 3) := by decide +kernel
theorem dX12_endsText_21 : decode cX12_endsText 21 = .ok (.invokevirtual 147, 3) := by decide +kernel
theorem dX12_endsText_24 : decode cX12_endsText 24 = .ok (.pop, 1) := by decide +kernel
theorem dX12_endsText_25 : decode cX12_endsText 25 = .ok (.return_, 1) := by decide +kernel
theorem eX12_endsText_0 : am_lim call mX12_endsText 0 [some (.ref a)] (S) σ = am_lim call mX12_endsText 1 [some (.ref a)] (.ref a :: S) σ := r_aload_n dX12_endsText_0 rfl
theorem eX12_endsText_1 (h : g_o σ a 12) : am_lim call mX12_endsText 1 [l0] (.ref a :: S) σ = am_lim call mX12_endsText 4 [l0] (.int (g_I σ a 4) :: S) σ := r_getI dX12_endsText_1 f_12_134 rfl h
theorem eX12_endsText_4 : am_lim call mX12_endsText 4 [l0] (S) σ = am_lim call mX12_endsText 5 [l0] (.int (-1) :: S) σ := r_iconst dX12_endsText_4 (by decide)
theorem eX12_endsText_5 : am_lim call mX12_endsText 5 [l0] (.int y :: .int x :: S) σ = if x ≠ y then am_lim call mX12_endsText 25 [l0] (S) σ else am_lim call mX12_endsText 8 [l0] (S) σ := r_icmpB 25 dX12_endsText_5 (by decide) rfl
theorem eX12_endsText_8 : am_lim call mX12_endsText 8 [some (.ref a)] (S) σ = am_lim call mX12_endsText 9 [some (.ref a)] (.ref a :: S) σ := r_aload_n dX12_endsText_8 rfl
theorem eX12_endsText_9 (h : g_o σ b 12) : am_lim call mX12_endsText 9 [l0] (.ref b :: []) σ = am_k (call mX12_look [.ref b] σ) (fun r σ1 => am_lim call mX12_endsText 12 [l0] (r.toList ++ []) σ1) := r_kV (S1 := []) dX12_endsText_9 mt_12_140 rfl h (Nat.le_of_ble_eq_true rfl)
theorem eX12_endsText_12 : am_lim call mX12_endsText 12 [l0] (S) σ = am_lim call mX12_endsText 13 [l0] (.int (-1) :: S) σ := r_iconst dX12_endsText_12 (by decide)
theorem eX12_endsText_13 : am_lim call mX12_endsText 13 [l0] (.int y :: .int x :: S) σ = if x = y then am_lim call mX12_endsText 25 [l0] (S) σ else am_lim call mX12_endsText 16 [l0] (S) σ := r_icmpB 25 dX12_endsText_13 (by decide) rfl
theorem eX12_endsText_16 : am_lim call mX12_endsText 16 [some (.ref a)] (S) σ = am_lim call mX12_endsText 17 [some (.ref a)] (.ref a :: S) σ := r_aload_n dX12_endsText_16 rfl
theorem eX12_endsText_17 : am_lim call mX12_endsText 17 [some (.ref a)] (S) σ = am_lim call mX12_endsText 18 [some (.ref a)] (.ref a :: S) σ := r_aload_n dX12_endsText_17 rfl
theorem eX12_endsText_18 (h : g_o σ a 12) : am_lim call mX12_endsText 18 [l0] (.ref a :: S) σ = am_lim call mX12_endsText 21 [l0] (.int (g_I σ a 3) :: S) σ := r_getI dX12_endsText_18 f_12_127 rfl h
theorem eX12_endsText_21 (h : g_o σ b 12) : am_lim call mX12_endsText 21 [l0] (.int v0 :: .ref b :: []) σ = am_k (call mX12_fails [.ref b, .int v0] σ) (fun r σ1 => am_lim call mX12_endsText 24 [l0] (r.toList ++ []) σ1) := r_kV (S1 := [.int v0]) dX12_endsText_21 mt_12_147 rfl h (Nat.le_of_ble_eq_true rfl)
theorem eX12_endsText_24 : am_lim call mX12_endsText 24 [l0] (.int x :: S) σ = am_lim call mX12_endsText 25 [l0] (S) σ := r_popI dX12_endsText_24
theorem eX12_endsText_25 : am_lim call mX12_endsText 25 [l0] ([]) σ = some (none, σ) := r_retV dX12_endsText_25 rfl
theorem nX12_endsText {d : Nat} : am_run (d + 1) mX12_endsText [.ref b] σ = am_lim (am_run d) mX12_endsText 0 [some (.ref b)] [] σ := am_run_S rfl rfl rfl rfl
theorem dX11_below_0 : decode cX11_below 0 = .ok (.aload_n 0, 1) := by decide +kernel
theorem dX11_below_1 : decode cX11_below 1 = .ok (.getfield 41, 3) := by decide +kernel
theorem dX11_below_4 : decode cX11_below 4 = .ok (.iconst 2, 1) := by decide +kernel
theorem dX11_below_5 : decode cX11_below 5 = .ok (.invokevirtual 97, 3) := by decide +kernel
theorem dX11_below_8 : decode cX11_below 8 = .ok (.iconst (-1), 1) := by decide +kernel
theorem dX11_below_9 : decode cX11_below 9 = .ok (.if_icmp .eq 5, 3) := by decide +kernel
theorem dX11_below_12 : decode cX11_below 12 = .ok (.iconst (-1), 1) := by decide +kernel
theorem dX11_below_13 : decode cX11_below 13 = .ok (.ireturn, 1) := by decide +kernel
theorem dX11_below_14 : decode cX11_below 14 = .ok (.aload_n 0, 1) := by decide +kernel
theorem dX11_below_15 : decode cX11_below 15 = .ok (.getfield 41, 3) := by decide +kernel
theorem dX11_below_18 : decode cX11_below 18 = .ok (.iconst 0, 1) := by decide +kernel
theorem dX11_below_19 : decode cX11_below 19 = .ok (.putfield 86, 3) := by decide +kernel
theorem dX11_below_22 : decode cX11_below 22 = .ok (.aload_n 0, 1) := by decide +kernel
theorem dX11_below_23 : decode cX11_below 23 = .ok (.getfield 50, 3) := by decide +kernel
theorem dX11_below_26 : decode cX11_below 26 = .ok (.aload_n 0, 1) := by decide +kernel
theorem dX11_below_27 : decode cX11_below 27 = .ok (.getfield 29, 3) := by decide +kernel
theorem dX11_below_30 : decode cX11_below 30 = .ok (.aload_n 0, 1) := by decide +kernel
theorem dX11_below_31 : decode cX11_below 31 = .ok (.getfield 41, 3) := by decide +kernel
theorem dX11_below_34 : decode cX11_below 34 = .ok (.getfield 111, 3) := by decide +kernel
theorem dX11_below_37 : decode cX11_below 37 = .ok (.aload_n 0, 1) := by decide +kernel
theorem dX11_below_38 : decode cX11_below 38 = .ok (.getfield 41, 3) := by decide +kernel
theorem dX11_below_41 : decode cX11_below 41 = .ok (.getfield 115, 3) := by decide +kernel
theorem dX11_below_44 : decode cX11_below 44 = .ok (.invokevirtual 118, 3) := by decide +kernel
theorem dX11_below_47 : decode cX11_below 47 = .ok (.aload_n 0, 1) := by decide +kernel
theorem dX11_below_48 : decode cX11_below 48 = .ok (.getfield 50, 3) := by decide +kernel
theorem dX11_below_51 : decode cX11_below 51 = .ok (.invokevirtual 104, 3) := by decide +kernel
theorem dX11_below_54 : decode cX11_below 54 = .ok (.aload_n 0, 1) := by decide +kernel
theorem dX11_below_55 : decode cX11_below 55 = .ok (.invokevirtual 107, 3) := by decide +kernel
theorem dX11_below_58 : decode cX11_below 58 = .ok (.ireturn, 1) := by decide +kernel
theorem eX11_below_0 : am_lim call mX11_below 0 [some (.ref a)] (S) σ = am_lim call mX11_below 1 [some (.ref a)] (.ref a :: S) σ := r_aload_n dX11_below_0 rfl
theorem eX11_below_1 (h : g_o σ a 11) : am_lim call mX11_below 1 [l0] (.ref a :: S) σ = am_lim call mX11_below 4 [l0] (va_rf (g_R σ a 0) :: S) σ := r_getR dX11_below_1 f_11_41 rfl h
theorem eX11_below_4 : am_lim call mX11_below 4 [l0] (S) σ = am_lim call mX11_below 5 [l0] (.int 2 :: S) σ := r_iconst dX11_below_4 (by decide)
theorem eX11_below_5 (h : g_o σ b 3) : am_lim call mX11_below 5 [l0] (.int v0 :: .ref b :: []) σ = am_k (call mX3_readTypes [.ref b, .int v0] σ) (fun r σ1 => am_lim call mX11_below 8 [l0] (r.toList ++ []) σ1) := r_kV (S1 := [.int v0]) dX11_below_5 mt_11_97 rfl h (Nat.le_of_ble_eq_true rfl)
theorem eX11_below_8 : am_lim call mX11_below 8 [l0] (S) σ = am_lim call mX11_below 9 [l0] (.int (-1) :: S) σ := r_iconst dX11_below_8 (by decide)
theorem eX11_below_9 : am_lim call mX11_below 9 [l0] (.int y :: .int x :: S) σ = if x = y then am_lim call mX11_below 14 [l0] (S) σ else am_lim call mX11_below 12 [l0] (S) σ := r_icmpB 14 dX11_below_9 (by decide) rfl
theorem eX11_below_12 : am_lim call mX11_below 12 [l0] (S) σ = am_lim call mX11_below 13 [l0] (.int (-1) :: S) σ := r_iconst dX11_below_12 (by decide)
theorem eX11_below_13 : am_lim call mX11_below 13 [l0] ([.int x]) σ = some (some (.int x), σ) := r_retI dX11_below_13 rfl
theorem eX11_below_14 : am_lim call mX11_below 14 [some (.ref a)] (S) σ = am_lim call mX11_below 15 [some (.ref a)] (.ref a :: S) σ := r_aload_n dX11_below_14 rfl
theorem eX11_below_15 (h : g_o σ a 11) : am_lim call mX11_below 15 [l0] (.ref a :: S) σ = am_lim call mX11_below 18 [l0] (va_rf (g_R σ a 0) :: S) σ := r_getR dX11_below_15 f_11_41 rfl h
theorem eX11_below_18 : am_lim call mX11_below 18 [l0] (S) σ = am_lim call mX11_below 19 [l0] (.int 0 :: S) σ := r_iconst dX11_below_18 (by decide)
theorem eX11_below_19 (h : g_o σ a 3) : am_lim call mX11_below 19 [l0] (.int x :: .ref a :: S) σ = am_lim call mX11_below 22 [l0] (S) (am_sI σ a 0 x) := r_putI dX11_below_19 f_11_86 rfl rfl h
theorem eX11_below_22 : am_lim call mX11_below 22 [some (.ref a)] (S) σ = am_lim call mX11_below 23 [some (.ref a)] (.ref a :: S) σ := r_aload_n dX11_below_22 rfl
theorem eX11_below_23 (h : g_o σ a 11) : am_lim call mX11_below 23 [l0] (.ref a :: S) σ = am_lim call mX11_below 26 [l0] (va_rf (g_R σ a 2) :: S) σ := r_getR dX11_below_23 f_11_50 rfl h
theorem eX11_below_26 : am_lim call mX11_below 26 [some (.ref a)] (S) σ = am_lim call mX11_below 27 [some (.ref a)] (.ref a :: S) σ := r_aload_n dX11_below_26 rfl
theorem eX11_below_27 (h : g_o σ a 11) : am_lim call mX11_below 27 [l0] (.ref a :: S) σ = am_lim call mX11_below 30 [l0] (va_rf (g_R σ a 5) :: S) σ := r_getR dX11_below_27 f_11_29 rfl h
theorem eX11_below_30 : am_lim call mX11_below 30 [some (.ref a)] (S) σ = am_lim call mX11_below 31 [some (.ref a)] (.ref a :: S) σ := r_aload_n dX11_below_30 rfl
theorem eX11_below_31 (h : g_o σ a 11) : am_lim call mX11_below 31 [l0] (.ref a :: S) σ = am_lim call mX11_below 34 [l0] (va_rf (g_R σ a 0) :: S) σ := r_getR dX11_below_31 f_11_41 rfl h
theorem eX11_below_34 (h : g_o σ a 3) : am_lim call mX11_below 34 [l0] (.ref a :: S) σ = am_lim call mX11_below 37 [l0] (va_rf (g_R σ a 1) :: S) σ := r_getR dX11_below_34 f_11_111 rfl h
theorem eX11_below_37 : am_lim call mX11_below 37 [some (.ref a)] (S) σ = am_lim call mX11_below 38 [some (.ref a)] (.ref a :: S) σ := r_aload_n dX11_below_37 rfl
theorem eX11_below_38 (h : g_o σ a 11) : am_lim call mX11_below 38 [l0] (.ref a :: S) σ = am_lim call mX11_below 41 [l0] (va_rf (g_R σ a 0) :: S) σ := r_getR dX11_below_38 f_11_41 rfl h
theorem eX11_below_41 (h : g_o σ a 3) : am_lim call mX11_below 41 [l0] (.ref a :: S) σ = am_lim call mX11_below 44 [l0] (va_rf (g_R σ a 2) :: S) σ := r_getR dX11_below_41 f_11_115 rfl h
theorem eX11_below_44 (h : g_o σ b 1) : am_lim call mX11_below 44 [l0] (.ref p2 :: .ref p1 :: .ref p0 :: .ref b :: []) σ = am_k (call mX1_startTypes [.ref b, .ref p0, .ref p1, .ref p2] σ) (fun r σ1 => am_lim call mX11_below 47 [l0] (r.toList ++ []) σ1) := r_kV (S1 := [.ref p2, .ref p1, .ref p0]) dX11_below_44 mt_11_118 rfl h (Nat.le_of_ble_eq_true rfl)
theorem eX11_below_47 : am_lim call mX11_below 47 [some (.ref a)] (S) σ = am_lim call mX11_below 48 [some (.ref a)] (.ref a :: S) σ := r_aload_n dX11_below_47 rfl
theorem eX11_below_48 (h : g_o σ a 11) : am_lim call mX11_below 48 [l0] (.ref a :: S) σ = am_lim call mX11_below 51 [l0] (va_rf (g_R σ a 2) :: S) σ := r_getR dX11_below_48 f_11_50 rfl h
theorem eX11_below_51 (h : g_o σ b 1) : am_lim call mX11_below 51 [l0] (.ref b :: []) σ = am_k (call mX1_run [.ref b] σ) (fun r σ1 => am_lim call mX11_below 54 [l0] (r.toList ++ []) σ1) := r_kV (S1 := []) dX11_below_51 mt_11_104 rfl h (Nat.le_of_ble_eq_true rfl)
theorem eX11_below_54 : am_lim call mX11_below 54 [some (.ref a)] (S) σ = am_lim call mX11_below 55 [some (.ref a)] (.ref a :: S) σ := r_aload_n dX11_below_54 rfl
theorem eX11_below_55 (h : g_o σ b 11) : am_lim call mX11_below 55 [l0] (.ref b :: []) σ = am_k (call mX11_counted [.ref b] σ) (fun r σ1 => am_lim call mX11_below 58 [l0] (r.toList ++ []) σ1) := r_kV (S1 := []) dX11_below_55 mt_11_107 rfl h (Nat.le_of_ble_eq_true rfl)
theorem eX11_below_58 : am_lim call mX11_below 58 [l0] ([.int x]) σ = some (some (.int x), σ) := r_retI dX11_below_58 rfl
theorem nX11_below {d : Nat} : am_run (d + 1) mX11_below [.ref b] σ = am_lim (am_run d) mX11_below 0 [some (.ref b)] [] σ := am_run_S rfl rfl rfl rfl
theorem dX3_readTypes_0 : decode cX3_readTypes 0 = .ok (.aload_n 0, 1) := by decide +kernel
theorem dX3_readTypes_1 : decode cX3_readTypes 1 = .ok (.iconst 0, 1) := by decide +kernel
theorem dX3_readTypes_2 : decode cX3_readTypes 2 = .ok (.putfield 34, 3) := by decide +kernel
theorem dX3_readTypes_5 : decode cX3_readTypes 5 = .ok (.aload_n 0, 1) := by decide +kernel
theorem dX3_readTypes_6 : decode cX3_readTypes 6 = .ok (.iconst (-1), 1) := by decide +kernel
theorem dX3_readTypes_7 : decode cX3_readTypes 7 = .ok (.putfield 37, 3) := by decide +kernel
theorem dX3_readTypes_10 : decode cX3_readTypes 10 = .ok (.aload_n 0, 1) := by decide +kernel
theorem dX3_readTypes_11 : decode cX3_readTypes 11 = .ok (.getfield 23, 3) := by decide +kernel
theorem dX3_readTypes_14 : decode cX3_readTypes 14 = .ok (.invokevirtual 64, 3) := by decide +kernel
theorem dX3_readTypes_17 : decode cX3_readTypes 17 = .ok (.aload_n 0, 1) := by decide +kernel
theorem dX3_readTypes_18 : decode cX3_readTypes 18 = .ok (.getfield 27, 3) := by decide +kernel
theorem dX3_readTypes_21 : decode cX3_readTypes 21 = .ok (.invokevirtual 64, 3) := by decide +kernel
theorem dX3_readTypes_24 : decode cX3_readTypes 24 = .ok (.aload_n 0, 1) := by decide +kernel
theorem dX3_readTypes_25 : decode cX3_readTypes 25 = .ok (.aload_n 0, 1) := by decide +kernel
theorem dX3_readTypes_26 : decode cX3_readTypes 26 = .ok (.getfield 23, 3) := by decide +kernel
theorem dX3_readTypes_29 : decode cX3_readTypes 29 = .ok (.putfield 47, 3) := by decide +kernel
theorem dX3_readTypes_32 : decode cX3_readTypes 32 = .ok (.aload_n 0, 1) := by decide +kernel
theorem dX3_readTypes_33 : decode cX3_readTypes 33 = .ok (.iconst 1, 1) := by decide +kernel
theorem dX3_readTypes_34 : decode cX3_readTypes 34 = .ok (.invokevirtual 65, 3) := by decide +kernel
theorem dX3_readTypes_37 : decode cX3_readTypes 37 = .ok (.iload_n 1, 1) := by decide +kernel
theorem dX3_readTypes_38 : decode cX3_readTypes 38 = .ok (.iconst 2, 1) := by decide +kernel
theorem dX3_readTypes_39 : decode cX3_readTypes 39 = .ok (.if_icmp .ne 16, 3) := by decide +kernel
theorem dX3_readTypes_42 : decode cX3_readTypes 42 = .ok (.aload_n 0, 1) := by decide +kernel
theorem dX3_readTypes_43 : decode cX3_readTypes 43 = .ok (.aload_n 0, 1) := by decide +kernel
theorem dX3_readTypes_44 : decode cX3_readTypes 44 = .ok (.getfield 27, 3) := by decide +kernel
theorem dX3_readTypes_47 : decode cX3_readTypes 47 = .ok (.putfield 47, 3) := by decide +kernel
theorem dX3_readTypes_50 : decode cX3_readTypes 50 = .ok (.aload_n 0, 1) := by decide +kernel
theorem dX3_readTypes_51 : decode cX3_readTypes 51 = .ok (.iconst 1, 1) := by decide +kernel
theorem dX3_readTypes_52 : decode cX3_readTypes 52 = .ok (.invokevirtual 65, 3) := by decide +kernel
theorem dX3_readTypes_55 : decode cX3_readTypes 55 = .ok (.aload_n 0, 1) := by decide +kernel
theorem dX3_readTypes_56 : decode cX3_readTypes 56 = .ok (.invokevirtual 61, 3) := by decide +kernel
theorem dX3_readTypes_59 : decode cX3_readTypes 59 = .ok (.aload_n 0, 1) := by decide +kernel
theorem dX3_readTypes_60 : decode cX3_readTypes 60 = .ok (.getfield 37, 3) := by decide +kernel
theorem dX3_readTypes_63 : decode cX3_readTypes 63 = .ok (.ireturn, 1) := by decide +kernel
theorem eX3_readTypes_0 : am_lim call mX3_readTypes 0 [some (.ref a), l1] (S) σ = am_lim call mX3_readTypes 1 [some (.ref a), l1] (.ref a :: S) σ := r_aload_n dX3_readTypes_0 rfl
theorem eX3_readTypes_1 : am_lim call mX3_readTypes 1 [l0, l1] (S) σ = am_lim call mX3_readTypes 2 [l0, l1] (.int 0 :: S) σ := r_iconst dX3_readTypes_1 (by decide)
theorem eX3_readTypes_2 (h : g_o σ a 3) : am_lim call mX3_readTypes 2 [l0, l1] (.int x :: .ref a :: S) σ = am_lim call mX3_readTypes 5 [l0, l1] (S) (am_sI σ a 5 x) := r_putI dX3_readTypes_2 f_3_34 rfl rfl h
theorem eX3_readTypes_5 : am_lim call mX3_readTypes 5 [some (.ref a), l1] (S) σ = am_lim call mX3_readTypes 6 [some (.ref a), l1] (.ref a :: S) σ := r_aload_n dX3_readTypes_5 rfl
theorem eX3_readTypes_6 : am_lim call mX3_readTypes 6 [l0, l1] (S) σ = am_lim call mX3_readTypes 7 [l0, l1] (.int (-1) :: S) σ := r_iconst dX3_readTypes_6 (by decide)
theorem eX3_readTypes_7 (h : g_o σ a 3) : am_lim call mX3_readTypes 7 [l0, l1] (.int x :: .ref a :: S) σ = am_lim call mX3_readTypes 10 [l0, l1] (S) (am_sI σ a 6 x) := r_putI dX3_readTypes_7 f_3_37 rfl rfl h
theorem eX3_readTypes_10 : am_lim call mX3_readTypes 10 [some (.ref a), l1] (S) σ = am_lim call mX3_readTypes 11 [some (.ref a), l1] (.ref a :: S) σ := r_aload_n dX3_readTypes_10 rfl
theorem eX3_readTypes_11 (h : g_o σ a 3) : am_lim call mX3_readTypes 11 [l0, l1] (.ref a :: S) σ = am_lim call mX3_readTypes 14 [l0, l1] (va_rf (g_R σ a 1) :: S) σ := r_getR dX3_readTypes_11 f_3_23 rfl h
theorem eX3_readTypes_14 (h : g_o σ b 4) : am_lim call mX3_readTypes 14 [l0, l1] (.ref b :: []) σ = am_k (call mX4_clear [.ref b] σ) (fun r σ1 => am_lim call mX3_readTypes 17 [l0, l1] (r.toList ++ []) σ1) := r_kV (S1 := []) dX3_readTypes_14 mt_3_64 rfl h (Nat.le_of_ble_eq_true rfl)
theorem eX3_readTypes_17 : am_lim call mX3_readTypes 17 [some (.ref a), l1] (S) σ = am_lim call mX3_readTypes 18 [some (.ref a), l1] (.ref a :: S) σ := r_aload_n dX3_readTypes_17 rfl
theorem eX3_readTypes_18 (h : g_o σ a 3) : am_lim call mX3_readTypes 18 [l0, l1] (.ref a :: S) σ = am_lim call mX3_readTypes 21 [l0, l1] (va_rf (g_R σ a 2) :: S) σ := r_getR dX3_readTypes_18 f_3_27 rfl h
theorem eX3_readTypes_21 (h : g_o σ b 4) : am_lim call mX3_readTypes 21 [l0, l1] (.ref b :: []) σ = am_k (call mX4_clear [.ref b] σ) (fun r σ1 => am_lim call mX3_readTypes 24 [l0, l1] (r.toList ++ []) σ1) := r_kV (S1 := []) dX3_readTypes_21 mt_3_64 rfl h (Nat.le_of_ble_eq_true rfl)
theorem eX3_readTypes_24 : am_lim call mX3_readTypes 24 [some (.ref a), l1] (S) σ = am_lim call mX3_readTypes 25 [some (.ref a), l1] (.ref a :: S) σ := r_aload_n dX3_readTypes_24 rfl
theorem eX3_readTypes_25 : am_lim call mX3_readTypes 25 [some (.ref a), l1] (S) σ = am_lim call mX3_readTypes 26 [some (.ref a), l1] (.ref a :: S) σ := r_aload_n dX3_readTypes_25 rfl
theorem eX3_readTypes_26 (h : g_o σ a 3) : am_lim call mX3_readTypes 26 [l0, l1] (.ref a :: S) σ = am_lim call mX3_readTypes 29 [l0, l1] (va_rf (g_R σ a 1) :: S) σ := r_getR dX3_readTypes_26 f_3_23 rfl h
theorem eX3_readTypes_29 (h : g_o σ a 3) : am_lim call mX3_readTypes 29 [l0, l1] (.ref b :: .ref a :: S) σ = am_lim call mX3_readTypes 32 [l0, l1] (S) (am_sR σ a 9 (some b)) := r_putR dX3_readTypes_29 f_3_47 rfl rfl h
theorem eX3_readTypes_29n (h : g_o σ a 3) : am_lim call mX3_readTypes 29 [l0, l1] (.null :: .ref a :: S) σ = am_lim call mX3_readTypes 32 [l0, l1] (S) (am_sR σ a 9 none) := r_putN dX3_readTypes_29 f_3_47 rfl rfl h
theorem eX3_readTypes_32 : am_lim call mX3_readTypes 32 [some (.ref a), l1] (S) σ = am_lim call mX3_readTypes 33 [some (.ref a), l1] (.ref a :: S) σ := r_aload_n dX3_readTypes_32 rfl
theorem eX3_readTypes_33 : am_lim call mX3_readTypes 33 [l0, l1] (S) σ = am_lim call mX3_readTypes 34 [l0, l1] (.int 1 :: S) σ := r_iconst dX3_readTypes_33 (by decide)
theorem eX3_readTypes_34 (h : g_o σ b 3) : am_lim call mX3_readTypes 34 [l0, l1] (.int v0 :: .ref b :: []) σ = am_k (call mX3_readType [.ref b, .int v0] σ) (fun r σ1 => am_lim call mX3_readTypes 37 [l0, l1] (r.toList ++ []) σ1) := r_kV (S1 := [.int v0]) dX3_readTypes_34 mt_3_65 rfl h (Nat.le_of_ble_eq_true rfl)
theorem eX3_readTypes_37 : am_lim call mX3_readTypes 37 [l0, some (.int x)] (S) σ = am_lim call mX3_readTypes 38 [l0, some (.int x)] (.int x :: S) σ := r_iload_n dX3_readTypes_37 rfl
theorem eX3_readTypes_38 : am_lim call mX3_readTypes 38 [l0, l1] (S) σ = am_lim call mX3_readTypes 39 [l0, l1] (.int 2 :: S) σ := r_iconst dX3_readTypes_38 (by decide)
theorem eX3_readTypes_39 : am_lim call mX3_readTypes 39 [l0, l1] (.int y :: .int x :: S) σ = if x ≠ y then am_lim call mX3_readTypes 55 [l0, l1] (S) σ else am_lim call mX3_readTypes 42 [l0, l1] (S) σ := r_icmpB 55 dX3_readTypes_39 (by decide) rfl
theorem eX3_readTypes_42 : am_lim call mX3_readTypes 42 [some (.ref a), l1] (S) σ = am_lim call mX3_readTypes 43 [some (.ref a), l1] (.ref a :: S) σ := r_aload_n dX3_readTypes_42 rfl
theorem eX3_readTypes_43 : am_lim call mX3_readTypes 43 [some (.ref a), l1] (S) σ = am_lim call mX3_readTypes 44 [some (.ref a), l1] (.ref a :: S) σ := r_aload_n dX3_readTypes_43 rfl
theorem eX3_readTypes_44 (h : g_o σ a 3) : am_lim call mX3_readTypes 44 [l0, l1] (.ref a :: S) σ = am_lim call mX3_readTypes 47 [l0, l1] (va_rf (g_R σ a 2) :: S) σ := r_getR dX3_readTypes_44 f_3_27 rfl h
theorem eX3_readTypes_47 (h : g_o σ a 3) : am_lim call mX3_readTypes 47 [l0, l1] (.ref b :: .ref a :: S) σ = am_lim call mX3_readTypes 50 [l0, l1] (S) (am_sR σ a 9 (some b)) := r_putR dX3_readTypes_47 f_3_47 rfl rfl h
theorem eX3_readTypes_47n (h : g_o σ a 3) : am_lim call mX3_readTypes 47 [l0, l1] (.null :: .ref a :: S) σ = am_lim call mX3_readTypes 50 [l0, l1] (S) (am_sR σ a 9 none) := r_putN dX3_readTypes_47 f_3_47 rfl rfl h
theorem eX3_readTypes_50 : am_lim call mX3_readTypes 50 [some (.ref a), l1] (S) σ = am_lim call mX3_readTypes 51 [some (.ref a), l1] (.ref a :: S) σ := r_aload_n dX3_readTypes_50 rfl
theorem eX3_readTypes_51 : am_lim call mX3_readTypes 51 [l0, l1] (S) σ = am_lim call mX3_readTypes 52 [l0, l1] (.int 1 :: S) σ := r_iconst dX3_readTypes_51 (by decide)
theorem eX3_readTypes_52 (h : g_o σ b 3) : am_lim call mX3_readTypes 52 [l0, l1] (.int v0 :: .ref b :: []) σ = am_k (call mX3_readType [.ref b, .int v0] σ) (fun r σ1 => am_lim call mX3_readTypes 55 [l0, l1] (r.toList ++ []) σ1) := r_kV (S1 := [.int v0]) dX3_readTypes_52 mt_3_65 rfl h (Nat.le_of_ble_eq_true rfl)
theorem eX3_readTypes_55 : am_lim call mX3_readTypes 55 [some (.ref a), l1] (S) σ = am_lim call mX3_readTypes 56 [some (.ref a), l1] (.ref a :: S) σ := r_aload_n dX3_readTypes_55 rfl
theorem eX3_readTypes_56 (h : g_o σ b 3) : am_lim call mX3_readTypes 56 [l0, l1] (.ref b :: []) σ = am_k (call mX3_readEnd [.ref b] σ) (fun r σ1 => am_lim call mX3_readTypes 59 [l0, l1] (r.toList ++ []) σ1) := r_kV (S1 := []) dX3_readTypes_56 mt_3_61 rfl h (Nat.le_of_ble_eq_true rfl)
theorem eX3_readTypes_59 : am_lim call mX3_readTypes 59 [some (.ref a), l1] (S) σ = am_lim call mX3_readTypes 60 [some (.ref a), l1] (.ref a :: S) σ := r_aload_n dX3_readTypes_59 rfl
theorem eX3_readTypes_60 (h : g_o σ a 3) : am_lim call mX3_readTypes 60 [l0, l1] (.ref a :: S) σ = am_lim call mX3_readTypes 63 [l0, l1] (.int (g_I σ a 6) :: S) σ := r_getI dX3_readTypes_60 f_3_37 rfl h
theorem eX3_readTypes_63 : am_lim call mX3_readTypes 63 [l0, l1] ([.int x]) σ = some (some (.int x), σ) := r_retI dX3_readTypes_63 rfl
theorem nX3_readTypes {d : Nat} : am_run (d + 1) mX3_readTypes [.ref b, .int v0] σ = am_lim (am_run d) mX3_readTypes 0 [some (.ref b), some (.int v0)] [] σ := am_run_S rfl rfl rfl rfl
theorem dX3_readType_0 : decode cX3_readType 0 = .ok (.iconst 0, 1) := by decide +kernel
theorem dX3_readType_1 : decode cX3_readType 1 = .ok (.istore_n 2, 1) := by decide +kernel
theorem dX3_readType_2 : decode cX3_readType 2 = .ok (.iload_n 2, 1) := by decide +kernel
theorem dX3_readType_3 : decode cX3_readType 3 = .ok (.bipush 26, 2) := by decide +kernel
theorem dX3_readType_5 : decode cX3_readType 5 = .ok (.if_icmp .ge 16, 3) := by decide +kernel
theorem dX3_readType_8 : decode cX3_readType 8 = .ok (.aload_n 0, 1) := by decide +kernel
theorem dX3_readType_9 : decode cX3_readType 9 = .ok (.getfield 15, 3) := by decide +kernel
theorem dX3_readType_12 : decode cX3_readType 12 = .ok (.iload_n 2, 1) := by decide +kernel
theorem dX3_readType_13 : decode cX3_readType 13 = .ok (.iconst (-1), 1) := by decide +kernel
theorem dX3_readType_14 : decode cX3_readType 14 = .ok (.iastore, 1) := by decide +kernel
theorem dX3_readType_15 : decode cX3_readType 15 = .ok (.iinc 2 1, 3) := by decide +kernel
theorem dX3_readType_18 : decode cX3_readType 18 = .ok (.goto (-16), 3) := by decide +kernel
theorem dX3_readType_21 : decode cX3_readType 21 = .ok (.aload_n 0, 1) := by decide +kernel
theorem dX3_readType_22 : decode cX3_readType 22 = .ok (.iconst 0, 1) := by decide +kernel
theorem dX3_readType_23 : decode cX3_readType 23 = .ok (.putfield 40, 3) := by decide +kernel
theorem dX3_readType_26 : decode cX3_readType 26 = .ok (.aload_n 0, 1) := by decide +kernel
theorem dX3_readType_27 : decode cX3_readType 27 = .ok (.iload_n 1, 1) := by decide +kernel
theorem dX3_readType_28 : decode cX3_readType 28 = .ok (.invokevirtual 116, 3) := by decide +kernel
theorem dX3_readType_31 : decode cX3_readType 31 = .ok (.return_, 1) := by decide +kernel
theorem eX3_readType_0 : am_lim call mX3_readType 0 [l0, l1, l2] (S) σ = am_lim call mX3_readType 1 [l0, l1, l2] (.int 0 :: S) σ := r_iconst dX3_readType_0 (by decide)
theorem eX3_readType_1 : am_lim call mX3_readType 1 [l0, l1, l2] (.int x :: S) σ = am_lim call mX3_readType 2 [l0, l1, some (.int x)] (S) σ := r_istore_n dX3_readType_1 rfl rfl rfl rfl
theorem eX3_readType_2 : am_lim call mX3_readType 2 [l0, l1, some (.int x)] (S) σ = am_lim call mX3_readType 3 [l0, l1, some (.int x)] (.int x :: S) σ := r_iload_n dX3_readType_2 rfl
theorem eX3_readType_3 : am_lim call mX3_readType 3 [l0, l1, l2] (S) σ = am_lim call mX3_readType 5 [l0, l1, l2] (.int 26 :: S) σ := r_bipush dX3_readType_3 (by decide)
theorem eX3_readType_5 : am_lim call mX3_readType 5 [l0, l1, l2] (.int y :: .int x :: S) σ = if y ≤ x then am_lim call mX3_readType 21 [l0, l1, l2] (S) σ else am_lim call mX3_readType 8 [l0, l1, l2] (S) σ := r_icmpB 21 dX3_readType_5 (by decide) rfl
theorem eX3_readType_8 : am_lim call mX3_readType 8 [some (.ref a), l1, l2] (S) σ = am_lim call mX3_readType 9 [some (.ref a), l1, l2] (.ref a :: S) σ := r_aload_n dX3_readType_8 rfl
theorem eX3_readType_9 (h : g_o σ a 3) : am_lim call mX3_readType 9 [l0, l1, l2] (.ref a :: S) σ = am_lim call mX3_readType 12 [l0, l1, l2] (va_rf (g_R σ a 4) :: S) σ := r_getR dX3_readType_9 f_3_15 rfl h
theorem eX3_readType_12 : am_lim call mX3_readType 12 [l0, l1, some (.int x)] (S) σ = am_lim call mX3_readType 13 [l0, l1, some (.int x)] (.int x :: S) σ := r_iload_n dX3_readType_12 rfl
theorem eX3_readType_13 : am_lim call mX3_readType 13 [l0, l1, l2] (S) σ = am_lim call mX3_readType 14 [l0, l1, l2] (.int (-1) :: S) σ := r_iconst dX3_readType_13 (by decide)
theorem eX3_readType_14 {n : Nat} (h : g_a σ a n) (hi : am_in x n) : am_lim call mX3_readType 14 [l0, l1, l2] (.int y :: .int x :: .ref a :: S) σ = am_lim call mX3_readType 15 [l0, l1, l2] (S) (am_sI σ a x.toNatClampNeg y) := r_iast dX3_readType_14 h hi
theorem eX3_readType_15 : am_lim call mX3_readType 15 [l0, l1, some (.int x)] (S) σ = am_lim call mX3_readType 18 [l0, l1, some (.int (x + 1))] (S) σ := r_iinc dX3_readType_15 rfl (by decide) rfl rfl rfl rfl
theorem eX3_readType_18 : am_lim call mX3_readType 18 [l0, l1, l2] (S) σ = am_lim call mX3_readType 2 [l0, l1, l2] (S) σ := r_goto 2 dX3_readType_18 (by decide)
theorem eX3_readType_21 : am_lim call mX3_readType 21 [some (.ref a), l1, l2] (S) σ = am_lim call mX3_readType 22 [some (.ref a), l1, l2] (.ref a :: S) σ := r_aload_n dX3_readType_21 rfl
theorem eX3_readType_22 : am_lim call mX3_readType 22 [l0, l1, l2] (S) σ = am_lim call mX3_readType 23 [l0, l1, l2] (.int 0 :: S) σ := r_iconst dX3_readType_22 (by decide)
theorem eX3_readType_23 (h : g_o σ a 3) : am_lim call mX3_readType 23 [l0, l1, l2] (.int x :: .ref a :: S) σ = am_lim call mX3_readType 26 [l0, l1, l2] (S) (am_sI σ a 7 x) := r_putI dX3_readType_23 f_3_40 rfl rfl h
theorem eX3_readType_26 : am_lim call mX3_readType 26 [some (.ref a), l1, l2] (S) σ = am_lim call mX3_readType 27 [some (.ref a), l1, l2] (.ref a :: S) σ := r_aload_n dX3_readType_26 rfl
theorem eX3_readType_27 : am_lim call mX3_readType 27 [l0, some (.int x), l2] (S) σ = am_lim call mX3_readType 28 [l0, some (.int x), l2] (.int x :: S) σ := r_iload_n dX3_readType_27 rfl
theorem eX3_readType_28 (h : g_o σ b 3) : am_lim call mX3_readType 28 [l0, l1, l2] (.int v0 :: .ref b :: []) σ = am_k (call mX3_readTypePart [.ref b, .int v0] σ) (fun r σ1 => am_lim call mX3_readType 31 [l0, l1, l2] (r.toList ++ []) σ1) := r_kV (S1 := [.int v0]) dX3_readType_28 mt_3_116 rfl h (Nat.le_of_ble_eq_true rfl)
theorem eX3_readType_31 : am_lim call mX3_readType 31 [l0, l1, l2] ([]) σ = some (none, σ) := r_retV dX3_readType_31 rfl
theorem nX3_readType {d : Nat} : am_run (d + 1) mX3_readType [.ref b, .int v0] σ = am_lim (am_run d) mX3_readType 0 [some (.ref b), some (.int v0), none] [] σ := am_run_S rfl rfl rfl rfl
theorem dX3_readTypePart_0 : decode cX3_readTypePart 0 = .ok (.aload_n 0, 1) := by decide +kernel
theorem dX3_readTypePart_1 : decode cX3_readTypePart 1 = .ok (.getfield 37, 3) := by decide +kernel
theorem dX3_readTypePart_4 : decode cX3_readTypePart 4 = .ok (.iconst (-1), 1) := by decide +kernel
theorem dX3_readTypePart_5 : decode cX3_readTypePart 5 = .ok (.if_icmp .eq 4, 3) := by decide +kernel
theorem dX3_readTypePart_8 : decode cX3_readTypePart 8 = .ok (.return_, 1) := by decide +kernel
theorem dX3_readTypePart_9 : decode cX3_readTypePart 9 = .ok (.aload_n 0, 1) := by decide +kernel
theorem dX3_readTypePart_10 : decode cX3_readTypePart 10 = .ok (.invokevirtual 68, 3) := by decide +kernel
theorem dX3_readTypePart_13 : decode cX3_readTypePart 13 = .ok (.istore_n 2, 1) := by decide +kernel
theorem dX3_readTypePart_14 : decode cX3_readTypePart 14 = .ok (.iload_n 1, 1) := by decide +kernel
theorem dX3_readTypePart_15 : decode cX3_readTypePart 15 = .ok (.bipush 20, 2) := by decide +kernel
theorem dX3_readTypePart_17 : decode cX3_readTypePart 17 = .ok (.if_icmp .le 8, 3) := by decide +kernel
theorem dX3_readTypePart_20 : decode cX3_readTypePart 20 = .ok (.aload_n 0, 1) := by decide +kernel
theorem dX3_readTypePart_21 : decode cX3_readTypePart 21 = .ok (.invokevirtual 72, 3) := by decide +kernel
theorem dX3_readTypePart_24 : decode cX3_readTypePart 24 = .ok (.return_, 1) := by decide +kernel
theorem dX3_readTypePart_25 : decode cX3_readTypePart 25 = .ok (.iload_n 2, 1) := by decide +kernel
theorem dX3_readTypePart_26 : decode cX3_readTypePart 26 = .ok (.lookupswitch 108 #[(33, 100), (44, 91), (62, 82), (66, 66), (78, 58), (79, 74)], 58) := by decide +kernel
theorem dX3_readTypePart_84 : decode cX3_readTypePart 84 = .ok (.aload_n 0, 1) := by decide +kernel
theorem dX3_readTypePart_85 : decode cX3_readTypePart 85 = .ok (.iconst 0, 1) := by decide +kernel
theorem dX3_readTypePart_86 : decode cX3_readTypePart 86 = .ok (.invokevirtual 119, 3) := by decide +kernel
theorem dX3_readTypePart_89 : decode cX3_readTypePart 89 = .ok (.goto 50, 3) := by decide +kernel
theorem dX3_readTypePart_92 : decode cX3_readTypePart 92 = .ok (.aload_n 0, 1) := by decide +kernel
theorem dX3_readTypePart_93 : decode cX3_readTypePart 93 = .ok (.iconst 1, 1) := by decide +kernel
theorem dX3_readTypePart_94 : decode cX3_readTypePart 94 = .ok (.invokevirtual 119, 3) := by decide +kernel
theorem dX3_readTypePart_97 : decode cX3_readTypePart 97 = .ok (.goto 42, 3) := by decide +kernel
theorem dX3_readTypePart_100 : decode cX3_readTypePart 100 = .ok (.aload_n 0, 1) := by decide +kernel
theorem dX3_readTypePart_101 : decode cX3_readTypePart 101 = .ok (.iconst 2, 1) := by decide +kernel
theorem dX3_readTypePart_102 : decode cX3_readTypePart 102 = .ok (.invokevirtual 119, 3) := by decide +kernel
theorem dX3_readTypePart_105 : decode cX3_readTypePart 105 = .ok (.goto 34, 3) := by decide +kernel
theorem dX3_readTypePart_108 : decode cX3_readTypePart 108 = .ok (.aload_n 0, 1) := by decide +kernel
theorem dX3_readTypePart_109 : decode cX3_readTypePart 109 = .ok (.iconst 4, 1) := by decide +kernel
theorem dX3_readTypePart_110 : decode cX3_readTypePart 110 = .ok (.iload_n 1, 1) := by decide +kernel
theorem dX3_readTypePart_111 : decode cX3_readTypePart 111 = .ok (.invokevirtual 122, 3) := by decide +kernel
theorem dX3_readTypePart_114 : decode cX3_readTypePart 114 = .ok (.goto 25, 3) := by decide +kernel
theorem dX3_readTypePart_117 : decode cX3_readTypePart 117 = .ok (.aload_n 0, 1) := by decide +kernel
theorem dX3_readTypePart_118 : decode cX3_readTypePart 118 = .ok (.iconst 5, 1) := by decide +kernel
theorem dX3_readTypePart_119 : decode cX3_readTypePart 119 = .ok (.iload_n 1, 1) := by decide +kernel
theorem dX3_readTypePart_120 : decode cX3_readTypePart 120 = .ok (.invokevirtual 122, 3) := by decide +kernel
theorem dX3_readTypePart_123 : decode cX3_readTypePart 123 = .ok (.goto 16, 3) := by decide +kernel
theorem dX3_readTypePart_126 : decode cX3_readTypePart 126 = .ok (.aload_n 0, 1) := by decide +kernel
theorem dX3_readTypePart_127 : decode cX3_readTypePart 127 = .ok (.iload_n 1, 1) := by decide +kernel
theorem dX3_readTypePart_128 : decode cX3_readTypePart 128 = .ok (.invokevirtual 125, 3) := by decide +kernel
theorem dX3_readTypePart_131 : decode cX3_readTypePart 131 = .ok (.goto 8, 3) := by decide +kernel
theorem dX3_readTypePart_134 : decode cX3_readTypePart 134 = .ok (.aload_n 0, 1) := by decide +kernel
theorem dX3_readTypePart_135 : decode cX3_readTypePart 135 = .ok (.iload_n 2, 1) := by decide +kernel
theorem dX3_readTypePart_136 : decode cX3_readTypePart 136 = .ok (.invokevirtual 128, 3) := by decide +kernel
theorem dX3_readTypePart_139 : decode cX3_readTypePart 139 = .ok (.return_, 1) := by decide +kernel
theorem eX3_readTypePart_0 : am_lim call mX3_readTypePart 0 [some (.ref a), l1, l2] (S) σ = am_lim call mX3_readTypePart 1 [some (.ref a), l1, l2] (.ref a :: S) σ := r_aload_n dX3_readTypePart_0 rfl
theorem eX3_readTypePart_1 (h : g_o σ a 3) : am_lim call mX3_readTypePart 1 [l0, l1, l2] (.ref a :: S) σ = am_lim call mX3_readTypePart 4 [l0, l1, l2] (.int (g_I σ a 6) :: S) σ := r_getI dX3_readTypePart_1 f_3_37 rfl h
theorem eX3_readTypePart_4 : am_lim call mX3_readTypePart 4 [l0, l1, l2] (S) σ = am_lim call mX3_readTypePart 5 [l0, l1, l2] (.int (-1) :: S) σ := r_iconst dX3_readTypePart_4 (by decide)
theorem eX3_readTypePart_5 : am_lim call mX3_readTypePart 5 [l0, l1, l2] (.int y :: .int x :: S) σ = if x = y then am_lim call mX3_readTypePart 9 [l0, l1, l2] (S) σ else am_lim call mX3_readTypePart 8 [l0, l1, l2] (S) σ := r_icmpB 9 dX3_readTypePart_5 (by decide) rfl
theorem eX3_readTypePart_8 : am_lim call mX3_readTypePart 8 [l0, l1, l2] ([]) σ = some (none, σ) := r_retV dX3_readTypePart_8 rfl
theorem eX3_readTypePart_9 : am_lim call mX3_readTypePart 9 [some (.ref a), l1, l2] (S) σ = am_lim call mX3_readTypePart 10 [some (.ref a), l1, l2] (.ref a :: S) σ := r_aload_n dX3_readTypePart_9 rfl
theorem eX3_readTypePart_10 (h : g_o σ b 3) : am_lim call mX3_readTypePart 10 [l0, l1, l2] (.ref b :: []) σ = am_k (call mX3_nextSign [.ref b] σ) (fun r σ1 => am_lim call mX3_readTypePart 13 [l0, l1, l2] (r.toList ++ []) σ1) := r_kV (S1 := []) dX3_readTypePart_10 mt_3_68 rfl h (Nat.le_of_ble_eq_true rfl)
theorem eX3_readTypePart_13 : am_lim call mX3_readTypePart 13 [l0, l1, l2] (.int x :: S) σ = am_lim call mX3_readTypePart 14 [l0, l1, some (.int x)] (S) σ := r_istore_n dX3_readTypePart_13 rfl rfl rfl rfl
theorem eX3_readTypePart_14 : am_lim call mX3_readTypePart 14 [l0, some (.int x), l2] (S) σ = am_lim call mX3_readTypePart 15 [l0, some (.int x), l2] (.int x :: S) σ := r_iload_n dX3_readTypePart_14 rfl
theorem eX3_readTypePart_15 : am_lim call mX3_readTypePart 15 [l0, l1, l2] (S) σ = am_lim call mX3_readTypePart 17 [l0, l1, l2] (.int 20 :: S) σ := r_bipush dX3_readTypePart_15 (by decide)
theorem eX3_readTypePart_17 : am_lim call mX3_readTypePart 17 [l0, l1, l2] (.int y :: .int x :: S) σ = if x ≤ y then am_lim call mX3_readTypePart 25 [l0, l1, l2] (S) σ else am_lim call mX3_readTypePart 20 [l0, l1, l2] (S) σ := r_icmpB 25 dX3_readTypePart_17 (by decide) rfl
theorem eX3_readTypePart_20 : am_lim call mX3_readTypePart 20 [some (.ref a), l1, l2] (S) σ = am_lim call mX3_readTypePart 21 [some (.ref a), l1, l2] (.ref a :: S) σ := r_aload_n dX3_readTypePart_20 rfl
theorem eX3_readTypePart_21 (h : g_o σ b 3) : am_lim call mX3_readTypePart 21 [l0, l1, l2] (.ref b :: []) σ = am_k (call mX3_refuse [.ref b] σ) (fun r σ1 => am_lim call mX3_readTypePart 24 [l0, l1, l2] (r.toList ++ []) σ1) := r_kV (S1 := []) dX3_readTypePart_21 mt_3_72 rfl h (Nat.le_of_ble_eq_true rfl)
theorem eX3_readTypePart_24 : am_lim call mX3_readTypePart 24 [l0, l1, l2] ([]) σ = some (none, σ) := r_retV dX3_readTypePart_24 rfl
theorem eX3_readTypePart_25 : am_lim call mX3_readTypePart 25 [l0, l1, some (.int x)] (S) σ = am_lim call mX3_readTypePart 26 [l0, l1, some (.int x)] (.int x :: S) σ := r_iload_n dX3_readTypePart_25 rfl
theorem eX3_readTypePart_26_33 : am_lim call mX3_readTypePart 26 [l0, l1, l2] (.int 33 :: S) σ = am_lim call mX3_readTypePart 126 [l0, l1, l2] (S) σ := r_lkK (off := 100) 126 dX3_readTypePart_26 (by decide) (by decide) (by decide)
theorem eX3_readTypePart_26_44 : am_lim call mX3_readTypePart 26 [l0, l1, l2] (.int 44 :: S) σ = am_lim call mX3_readTypePart 117 [l0, l1, l2] (S) σ := r_lkK (off := 91) 117 dX3_readTypePart_26 (by decide) (by decide) (by decide)
theorem eX3_readTypePart_26_62 : am_lim call mX3_readTypePart 26 [l0, l1, l2] (.int 62 :: S) σ = am_lim call mX3_readTypePart 108 [l0, l1, l2] (S) σ := r_lkK (off := 82) 108 dX3_readTypePart_26 (by decide) (by decide) (by decide)
theorem eX3_readTypePart_26_66 : am_lim call mX3_readTypePart 26 [l0, l1, l2] (.int 66 :: S) σ = am_lim call mX3_readTypePart 92 [l0, l1, l2] (S) σ := r_lkK (off := 66) 92 dX3_readTypePart_26 (by decide) (by decide) (by decide)
theorem eX3_readTypePart_26_78 : am_lim call mX3_readTypePart 26 [l0, l1, l2] (.int 78 :: S) σ = am_lim call mX3_readTypePart 84 [l0, l1, l2] (S) σ := r_lkK (off := 58) 84 dX3_readTypePart_26 (by decide) (by decide) (by decide)
theorem eX3_readTypePart_26_79 : am_lim call mX3_readTypePart 26 [l0, l1, l2] (.int 79 :: S) σ = am_lim call mX3_readTypePart 100 [l0, l1, l2] (S) σ := r_lkK (off := 74) 100 dX3_readTypePart_26 (by decide) (by decide) (by decide)
theorem eX3_readTypePart_26_d (h : Op.lookupswitch.offset [(33, 100), (44, 91), (62, 82), (66, 66), (78, 58), (79, 74)] 108 x.toInt = 108) : am_lim call mX3_readTypePart 26 [l0, l1, l2] (.int x :: S) σ = am_lim call mX3_readTypePart 134 [l0, l1, l2] (S) σ := r_lkD 134 dX3_readTypePart_26 (by decide) h (by decide)
theorem eX3_readTypePart_134 : am_lim call mX3_readTypePart 134 [some (.ref a), l1, l2] (S) σ = am_lim call mX3_readTypePart 135 [some (.ref a), l1, l2] (.ref a :: S) σ := r_aload_n dX3_readTypePart_134 rfl
theorem eX3_readTypePart_135 : am_lim call mX3_readTypePart 135 [l0, l1, some (.int x)] (S) σ = am_lim call mX3_readTypePart 136 [l0, l1, some (.int x)] (.int x :: S) σ := r_iload_n dX3_readTypePart_135 rfl
theorem eX3_readTypePart_136 (h : g_o σ b 3) : am_lim call mX3_readTypePart 136 [l0, l1, l2] (.int v0 :: .ref b :: []) σ = am_k (call mX3_readVariable [.ref b, .int v0] σ) (fun r σ1 => am_lim call mX3_readTypePart 139 [l0, l1, l2] (r.toList ++ []) σ1) := r_kV (S1 := [.int v0]) dX3_readTypePart_136 mt_3_128 rfl h (Nat.le_of_ble_eq_true rfl)
theorem eX3_readTypePart_139 : am_lim call mX3_readTypePart 139 [l0, l1, l2] ([]) σ = some (none, σ) := r_retV dX3_readTypePart_139 rfl
theorem eX3_readTypePart_100 : am_lim call mX3_readTypePart 100 [some (.ref a), l1, l2] (S) σ = am_lim call mX3_readTypePart 101 [some (.ref a), l1, l2] (.ref a :: S) σ := r_aload_n dX3_readTypePart_100 rfl
theorem eX3_readTypePart_101 : am_lim call mX3_readTypePart 101 [l0, l1, l2] (S) σ = am_lim call mX3_readTypePart 102 [l0, l1, l2] (.int 2 :: S) σ := r_iconst dX3_readTypePart_101 (by decide)
theorem eX3_readTypePart_102 (h : g_o σ b 3) : am_lim call mX3_readTypePart 102 [l0, l1, l2] (.int v0 :: .ref b :: []) σ = am_k (call mX3_readLeaf [.ref b, .int v0] σ) (fun r σ1 => am_lim call mX3_readTypePart 105 [l0, l1, l2] (r.toList ++ []) σ1) := r_kV (S1 := [.int v0]) dX3_readTypePart_102 mt_3_119 rfl h (Nat.le_of_ble_eq_true rfl)
theorem eX3_readTypePart_105 : am_lim call mX3_readTypePart 105 [l0, l1, l2] (S) σ = am_lim call mX3_readTypePart 139 [l0, l1, l2] (S) σ := r_goto 139 dX3_readTypePart_105 (by decide)
theorem eX3_readTypePart_84 : am_lim call mX3_readTypePart 84 [some (.ref a), l1, l2] (S) σ = am_lim call mX3_readTypePart 85 [some (.ref a), l1, l2] (.ref a :: S) σ := r_aload_n dX3_readTypePart_84 rfl
theorem eX3_readTypePart_85 : am_lim call mX3_readTypePart 85 [l0, l1, l2] (S) σ = am_lim call mX3_readTypePart 86 [l0, l1, l2] (.int 0 :: S) σ := r_iconst dX3_readTypePart_85 (by decide)
theorem eX3_readTypePart_86 (h : g_o σ b 3) : am_lim call mX3_readTypePart 86 [l0, l1, l2] (.int v0 :: .ref b :: []) σ = am_k (call mX3_readLeaf [.ref b, .int v0] σ) (fun r σ1 => am_lim call mX3_readTypePart 89 [l0, l1, l2] (r.toList ++ []) σ1) := r_kV (S1 := [.int v0]) dX3_readTypePart_86 mt_3_119 rfl h (Nat.le_of_ble_eq_true rfl)
theorem eX3_readTypePart_89 : am_lim call mX3_readTypePart 89 [l0, l1, l2] (S) σ = am_lim call mX3_readTypePart 139 [l0, l1, l2] (S) σ := r_goto 139 dX3_readTypePart_89 (by decide)
theorem eX3_readTypePart_92 : am_lim call mX3_readTypePart 92 [some (.ref a), l1, l2] (S) σ = am_lim call mX3_readTypePart 93 [some (.ref a), l1, l2] (.ref a :: S) σ := r_aload_n dX3_readTypePart_92 rfl
theorem eX3_readTypePart_93 : am_lim call mX3_readTypePart 93 [l0, l1, l2] (S) σ = am_lim call mX3_readTypePart 94 [l0, l1, l2] (.int 1 :: S) σ := r_iconst dX3_readTypePart_93 (by decide)
theorem eX3_readTypePart_94 (h : g_o σ b 3) : am_lim call mX3_readTypePart 94 [l0, l1, l2] (.int v0 :: .ref b :: []) σ = am_k (call mX3_readLeaf [.ref b, .int v0] σ) (fun r σ1 => am_lim call mX3_readTypePart 97 [l0, l1, l2] (r.toList ++ []) σ1) := r_kV (S1 := [.int v0]) dX3_readTypePart_94 mt_3_119 rfl h (Nat.le_of_ble_eq_true rfl)
theorem eX3_readTypePart_97 : am_lim call mX3_readTypePart 97 [l0, l1, l2] (S) σ = am_lim call mX3_readTypePart 139 [l0, l1, l2] (S) σ := r_goto 139 dX3_readTypePart_97 (by decide)
theorem eX3_readTypePart_108 : am_lim call mX3_readTypePart 108 [some (.ref a), l1, l2] (S) σ = am_lim call mX3_readTypePart 109 [some (.ref a), l1, l2] (.ref a :: S) σ := r_aload_n dX3_readTypePart_108 rfl
theorem eX3_readTypePart_109 : am_lim call mX3_readTypePart 109 [l0, l1, l2] (S) σ = am_lim call mX3_readTypePart 110 [l0, l1, l2] (.int 4 :: S) σ := r_iconst dX3_readTypePart_109 (by decide)
theorem eX3_readTypePart_110 : am_lim call mX3_readTypePart 110 [l0, some (.int x), l2] (S) σ = am_lim call mX3_readTypePart 111 [l0, some (.int x), l2] (.int x :: S) σ := r_iload_n dX3_readTypePart_110 rfl
theorem eX3_readTypePart_111 (h : g_o σ b 3) : am_lim call mX3_readTypePart 111 [l0, l1, l2] (.int v1 :: .int v0 :: .ref b :: []) σ = am_k (call mX3_readTwo [.ref b, .int v0, .int v1] σ) (fun r σ1 => am_lim call mX3_readTypePart 114 [l0, l1, l2] (r.toList ++ []) σ1) := r_kV (S1 := [.int v1, .int v0]) dX3_readTypePart_111 mt_3_122 rfl h (Nat.le_of_ble_eq_true rfl)
theorem eX3_readTypePart_114 : am_lim call mX3_readTypePart 114 [l0, l1, l2] (S) σ = am_lim call mX3_readTypePart 139 [l0, l1, l2] (S) σ := r_goto 139 dX3_readTypePart_114 (by decide)
theorem eX3_readTypePart_117 : am_lim call mX3_readTypePart 117 [some (.ref a), l1, l2] (S) σ = am_lim call mX3_readTypePart 118 [some (.ref a), l1, l2] (.ref a :: S) σ := r_aload_n dX3_readTypePart_117 rfl
theorem eX3_readTypePart_118 : am_lim call mX3_readTypePart 118 [l0, l1, l2] (S) σ = am_lim call mX3_readTypePart 119 [l0, l1, l2] (.int 5 :: S) σ := r_iconst dX3_readTypePart_118 (by decide)
theorem eX3_readTypePart_119 : am_lim call mX3_readTypePart 119 [l0, some (.int x), l2] (S) σ = am_lim call mX3_readTypePart 120 [l0, some (.int x), l2] (.int x :: S) σ := r_iload_n dX3_readTypePart_119 rfl
theorem eX3_readTypePart_120 (h : g_o σ b 3) : am_lim call mX3_readTypePart 120 [l0, l1, l2] (.int v1 :: .int v0 :: .ref b :: []) σ = am_k (call mX3_readTwo [.ref b, .int v0, .int v1] σ) (fun r σ1 => am_lim call mX3_readTypePart 123 [l0, l1, l2] (r.toList ++ []) σ1) := r_kV (S1 := [.int v1, .int v0]) dX3_readTypePart_120 mt_3_122 rfl h (Nat.le_of_ble_eq_true rfl)
theorem eX3_readTypePart_123 : am_lim call mX3_readTypePart 123 [l0, l1, l2] (S) σ = am_lim call mX3_readTypePart 139 [l0, l1, l2] (S) σ := r_goto 139 dX3_readTypePart_123 (by decide)
theorem eX3_readTypePart_126 : am_lim call mX3_readTypePart 126 [some (.ref a), l1, l2] (S) σ = am_lim call mX3_readTypePart 127 [some (.ref a), l1, l2] (.ref a :: S) σ := r_aload_n dX3_readTypePart_126 rfl
theorem eX3_readTypePart_127 : am_lim call mX3_readTypePart 127 [l0, some (.int x), l2] (S) σ = am_lim call mX3_readTypePart 128 [l0, some (.int x), l2] (.int x :: S) σ := r_iload_n dX3_readTypePart_127 rfl
theorem eX3_readTypePart_128 (h : g_o σ b 3) : am_lim call mX3_readTypePart 128 [l0, l1, l2] (.int v0 :: .ref b :: []) σ = am_k (call mX3_readAll [.ref b, .int v0] σ) (fun r σ1 => am_lim call mX3_readTypePart 131 [l0, l1, l2] (r.toList ++ []) σ1) := r_kV (S1 := [.int v0]) dX3_readTypePart_128 mt_3_125 rfl h (Nat.le_of_ble_eq_true rfl)
theorem eX3_readTypePart_131 : am_lim call mX3_readTypePart 131 [l0, l1, l2] (S) σ = am_lim call mX3_readTypePart 139 [l0, l1, l2] (S) σ := r_goto 139 dX3_readTypePart_131 (by decide)
theorem nX3_readTypePart {d : Nat} : am_run (d + 1) mX3_readTypePart [.ref b, .int v0] σ = am_lim (am_run d) mX3_readTypePart 0 [some (.ref b), some (.int v0), none] [] σ := am_run_S rfl rfl rfl rfl
theorem dX3_readVariable_0 : decode cX3_readVariable 0 = .ok (.iload_n 1, 1) := by decide +kernel
theorem dX3_readVariable_1 : decode cX3_readVariable 1 = .ok (.invokestatic 79, 3) := by decide +kernel
theorem dX3_readVariable_4 : decode cX3_readVariable 4 = .ok (.ifCond .eq 36, 3) := by decide +kernel
theorem dX3_readVariable_7 : decode cX3_readVariable 7 = .ok (.aload_n 0, 1) := by decide +kernel
theorem dX3_readVariable_8 : decode cX3_readVariable 8 = .ok (.getfield 15, 3) := by decide +kernel
theorem dX3_readVariable_11 : decode cX3_readVariable 11 = .ok (.iload_n 1, 1) := by decide +kernel
theorem dX3_readVariable_12 : decode cX3_readVariable 12 = .ok (.bipush 97, 2) := by decide +kernel
theorem dX3_readVariable_14 : decode cX3_readVariable 14 = .ok (.isub, 1) := by decide +kernel
theorem dX3_readVariable_15 : decode cX3_readVariable 15 = .ok (.iaload, 1) := by decide +kernel
theorem dX3_readVariable_16 : decode cX3_readVariable 16 = .ok (.iconst (-1), 1) := by decide +kernel
theorem dX3_readVariable_17 : decode cX3_readVariable 17 = .ok (.if_icmp .eq 23, 3) := by decide +kernel
theorem dX3_readVariable_20 : decode cX3_readVariable 20 = .ok (.aload_n 0, 1) := by decide +kernel
theorem dX3_readVariable_21 : decode cX3_readVariable 21 = .ok (.iconst 3, 1) := by decide +kernel
theorem dX3_readVariable_22 : decode cX3_readVariable 22 = .ok (.aload_n 0, 1) := by decide +kernel
theorem dX3_readVariable_23 : decode cX3_readVariable 23 = .ok (.getfield 15, 3) := by decide +kernel
theorem dX3_readVariable_26 : decode cX3_readVariable 26 = .ok (.iload_n 1, 1) := by decide +kernel
theorem dX3_readVariable_27 : decode cX3_readVariable 27 = .ok (.bipush 97, 2) := by decide +kernel
theorem dX3_readVariable_29 : decode cX3_readVariable 29 = .ok (.isub, 1) := by decide +kernel
theorem dX3_readVariable_30 : decode cX3_readVariable 30 = .ok (.iaload, 1) := by decide +kernel
theorem dX3_readVariable_31 : decode cX3_readVariable 31 = .ok (.invokestatic 133, 3) := by decide +kernel
theorem dX3_readVariable_34 : decode cX3_readVariable 34 = .ok (.invokevirtual 119, 3) := by decide +kernel
theorem dX3_readVariable_37 : decode cX3_readVariable 37 = .ok (.goto 7, 3) := by decide +kernel
theorem dX3_readVariable_40 : decode cX3_readVariable 40 = .ok (.aload_n 0, 1) := by decide +kernel
theorem dX3_readVariable_41 : decode cX3_readVariable 41 = .ok (.invokevirtual 72, 3) := by decide +kernel
theorem dX3_readVariable_44 : decode cX3_readVariable 44 = .ok (.return_, 1) := by decide +kernel
theorem eX3_readVariable_0 : am_lim call mX3_readVariable 0 [l0, some (.int x)] (S) σ = am_lim call mX3_readVariable 1 [l0, some (.int x)] (.int x :: S) σ := r_iload_n dX3_readVariable_0 rfl
theorem eX3_readVariable_1 : am_lim call mX3_readVariable 1 [l0, l1] (.int v0 :: []) σ = am_k (call mX3_isLetter [.int v0] σ) (fun r σ1 => am_lim call mX3_readVariable 4 [l0, l1] (r.toList ++ []) σ1) := r_kS (S1 := [.int v0]) dX3_readVariable_1 ⟨rfl, rfl, rfl⟩ mt_3_79 rfl (Nat.le_of_ble_eq_true rfl)
theorem eX3_readVariable_4 : am_lim call mX3_readVariable 4 [l0, l1] (.int x :: S) σ = if x = 0 then am_lim call mX3_readVariable 40 [l0, l1] (S) σ else am_lim call mX3_readVariable 7 [l0, l1] (S) σ := r_ifB 40 dX3_readVariable_4 (by decide) rfl
theorem eX3_readVariable_7 : am_lim call mX3_readVariable 7 [some (.ref a), l1] (S) σ = am_lim call mX3_readVariable 8 [some (.ref a), l1] (.ref a :: S) σ := r_aload_n dX3_readVariable_7 rfl
theorem eX3_readVariable_8 (h : g_o σ a 3) : am_lim call mX3_readVariable 8 [l0, l1] (.ref a :: S) σ = am_lim call mX3_readVariable 11 [l0, l1] (va_rf (g_R σ a 4) :: S) σ := r_getR dX3_readVariable_8 f_3_15 rfl h
theorem eX3_readVariable_11 : am_lim call mX3_readVariable 11 [l0, some (.int x)] (S) σ = am_lim call mX3_readVariable 12 [l0, some (.int x)] (.int x :: S) σ := r_iload_n dX3_readVariable_11 rfl
theorem eX3_readVariable_12 : am_lim call mX3_readVariable 12 [l0, l1] (S) σ = am_lim call mX3_readVariable 14 [l0, l1] (.int 97 :: S) σ := r_bipush dX3_readVariable_12 (by decide)
theorem eX3_readVariable_14 : am_lim call mX3_readVariable 14 [l0, l1] (.int y :: .int x :: S) σ = am_lim call mX3_readVariable 15 [l0, l1] (.int (x - y) :: S) σ := r_isub dX3_readVariable_14
theorem eX3_readVariable_15 {n : Nat} (h : g_a σ a n) (hi : am_in x n) : am_lim call mX3_readVariable 15 [l0, l1] (.int x :: .ref a :: S) σ = am_lim call mX3_readVariable 16 [l0, l1] (.int (g_I σ a x.toNatClampNeg) :: S) σ := r_iald dX3_readVariable_15 h hi
theorem eX3_readVariable_16 : am_lim call mX3_readVariable 16 [l0, l1] (S) σ = am_lim call mX3_readVariable 17 [l0, l1] (.int (-1) :: S) σ := r_iconst dX3_readVariable_16 (by decide)
theorem eX3_readVariable_17 : am_lim call mX3_readVariable 17 [l0, l1] (.int y :: .int x :: S) σ = if x = y then am_lim call mX3_readVariable 40 [l0, l1] (S) σ else am_lim call mX3_readVariable 20 [l0, l1] (S) σ := r_icmpB 40 dX3_readVariable_17 (by decide) rfl
theorem eX3_readVariable_20 : am_lim call mX3_readVariable 20 [some (.ref a), l1] (S) σ = am_lim call mX3_readVariable 21 [some (.ref a), l1] (.ref a :: S) σ := r_aload_n dX3_readVariable_20 rfl
theorem eX3_readVariable_21 : am_lim call mX3_readVariable 21 [l0, l1] (S) σ = am_lim call mX3_readVariable 22 [l0, l1] (.int 3 :: S) σ := r_iconst dX3_readVariable_21 (by decide)
theorem eX3_readVariable_22 : am_lim call mX3_readVariable 22 [some (.ref a), l1] (S) σ = am_lim call mX3_readVariable 23 [some (.ref a), l1] (.ref a :: S) σ := r_aload_n dX3_readVariable_22 rfl
theorem eX3_readVariable_23 (h : g_o σ a 3) : am_lim call mX3_readVariable 23 [l0, l1] (.ref a :: S) σ = am_lim call mX3_readVariable 26 [l0, l1] (va_rf (g_R σ a 4) :: S) σ := r_getR dX3_readVariable_23 f_3_15 rfl h
theorem eX3_readVariable_26 : am_lim call mX3_readVariable 26 [l0, some (.int x)] (S) σ = am_lim call mX3_readVariable 27 [l0, some (.int x)] (.int x :: S) σ := r_iload_n dX3_readVariable_26 rfl
theorem eX3_readVariable_27 : am_lim call mX3_readVariable 27 [l0, l1] (S) σ = am_lim call mX3_readVariable 29 [l0, l1] (.int 97 :: S) σ := r_bipush dX3_readVariable_27 (by decide)
theorem eX3_readVariable_29 : am_lim call mX3_readVariable 29 [l0, l1] (.int y :: .int x :: S) σ = am_lim call mX3_readVariable 30 [l0, l1] (.int (x - y) :: S) σ := r_isub dX3_readVariable_29
theorem eX3_readVariable_30 {n : Nat} (h : g_a σ a n) (hi : am_in x n) : am_lim call mX3_readVariable 30 [l0, l1] (.int x :: .ref a :: S) σ = am_lim call mX3_readVariable 31 [l0, l1] (.int (g_I σ a x.toNatClampNeg) :: S) σ := r_iald dX3_readVariable_30 h hi
theorem eX3_readVariable_31 : am_lim call mX3_readVariable 31 [l0, l1] (.int v1 :: .int v0 :: .ref q0 :: []) σ = am_k (call mX4_sign [.int v0, .int v1] σ) (fun r σ1 => am_lim call mX3_readVariable 34 [l0, l1] (r.toList ++ .ref q0 :: []) σ1) := r_kS (S1 := [.int v1, .int v0]) dX3_readVariable_31 ⟨rfl, rfl, rfl⟩ mt_3_133 rfl (Nat.le_of_ble_eq_true rfl)
theorem eX3_readVariable_34 (h : g_o σ b 3) : am_lim call mX3_readVariable 34 [l0, l1] (.int v0 :: .ref b :: []) σ = am_k (call mX3_readLeaf [.ref b, .int v0] σ) (fun r σ1 => am_lim call mX3_readVariable 37 [l0, l1] (r.toList ++ []) σ1) := r_kV (S1 := [.int v0]) dX3_readVariable_34 mt_3_119 rfl h (Nat.le_of_ble_eq_true rfl)
theorem eX3_readVariable_37 : am_lim call mX3_readVariable 37 [l0, l1] (S) σ = am_lim call mX3_readVariable 44 [l0, l1] (S) σ := r_goto 44 dX3_readVariable_37 (by decide)
theorem eX3_readVariable_44 : am_lim call mX3_readVariable 44 [l0, l1] ([]) σ = some (none, σ) := r_retV dX3_readVariable_44 rfl
theorem eX3_readVariable_40 : am_lim call mX3_readVariable 40 [some (.ref a), l1] (S) σ = am_lim call mX3_readVariable 41 [some (.ref a), l1] (.ref a :: S) σ := r_aload_n dX3_readVariable_40 rfl
theorem eX3_readVariable_41 (h : g_o σ b 3) : am_lim call mX3_readVariable 41 [l0, l1] (.ref b :: []) σ = am_k (call mX3_refuse [.ref b] σ) (fun r σ1 => am_lim call mX3_readVariable 44 [l0, l1] (r.toList ++ []) σ1) := r_kV (S1 := []) dX3_readVariable_41 mt_3_72 rfl h (Nat.le_of_ble_eq_true rfl)
theorem nX3_readVariable {d : Nat} : am_run (d + 1) mX3_readVariable [.ref b, .int v0] σ = am_lim (am_run d) mX3_readVariable 0 [some (.ref b), some (.int v0)] [] σ := am_run_S rfl rfl rfl rfl
theorem dX12_below__0 : decode cX12_below_ 0 = .ok (.aload_n 0, 1) := by decide +kernel
theorem dX12_below__1 : decode cX12_below_ 1 = .ok (.iconst 0, 1) := by decide +kernel
theorem dX12_below__2 : decode cX12_below_ 2 = .ok (.putfield 113, 3) := by decide +kernel
theorem dX12_below__5 : decode cX12_below_ 5 = .ok (.aload_n 0, 1) := by decide +kernel
theorem dX12_below__6 : decode cX12_below_ 6 = .ok (.iconst 2, 1) := by decide +kernel
theorem dX12_below__7 : decode cX12_below_ 7 = .ok (.invokevirtual 203, 3) := by decide +kernel
theorem dX12_below__10 : decode cX12_below_ 10 = .ok (.iconst (-1), 1) := by decide +kernel
theorem dX12_below__11 : decode cX12_below_ 11 = .ok (.if_icmp .eq 5, 3) := by decide +kernel
theorem dX12_below__14 : decode cX12_below_ 14 = .ok (.iconst (-1), 1) := by decide +kernel
theorem dX12_below__15 : decode cX12_below_ 15 = .ok (.ireturn, 1) := by decide +kernel
theorem dX12_below__16 : decode cX12_below_ 16 = .ok (.aload_n 0, 1) := by decide +kernel
theorem dX12_below__17 : decode cX12_below_ 17 = .ok (.iconst 0, 1) := by decide +kernel
theorem dX12_below__18 : decode cX12_below_ 18 = .ok (.putfield 116, 3) := by decide +kernel
theorem dX12_below__21 : decode cX12_below_ 21 = .ok (.aload_n 0, 1) := by decide +kernel
theorem dX12_below__22 : decode cX12_below_ 22 = .ok (.iconst 0, 1) := by decide +kernel
theorem dX12_below__23 : decode cX12_below_ 23 = .ok (.putfield 447, 3) := by decide +kernel
theorem dX12_below__26 : decode cX12_below_ 26 = .ok (.aload_n 0, 1) := by decide +kernel
theorem dX12_below__27 : decode cX12_below_ 27 = .ok (.iconst (-1), 1) := by decide +kernel
theorem dX12_below__28 : decode cX12_below_ 28 = .ok (.putfield 51, 3) := by decide +kernel
theorem dX12_below__31 : decode cX12_below_ 31 = .ok (.aload_n 0, 1) := by decide +kernel
theorem dX12_below__32 : decode cX12_below_ 32 = .ok (.iconst 0, 1) := by decide +kernel
theorem dX12_below__33 : decode cX12_below_ 33 = .ok (.ldc_w 420, 3) := by decide +kernel
theorem dX12_below__36 : decode cX12_below_ 36 = .ok (.invokevirtual 421, 3) := by decide +kernel
theorem dX12_below__39 : decode cX12_below_ 39 = .ok (.aload_n 0, 1) := by decide +kernel
theorem dX12_below__40 : decode cX12_below_ 40 = .ok (.iconst 0, 1) := by decide +kernel
theorem dX12_below__41 : decode cX12_below_ 41 = .ok (.invokevirtual 354, 3) := by decide +kernel
theorem dX12_below__44 : decode cX12_below_ 44 = .ok (.istore_n 1, 1) := by decide +kernel
theorem dX12_below__45 : decode cX12_below_ 45 = .ok (.aload_n 0, 1) := by decide +kernel
theorem dX12_below__46 : decode cX12_below_ 46 = .ok (.iload_n 1, 1) := by decide +kernel
theorem dX12_below__47 : decode cX12_below_ 47 = .ok (.aload_n 0, 1) := by decide +kernel
theorem dX12_below__48 : decode cX12_below_ 48 = .ok (.aload_n 0, 1) := by decide +kernel
theorem dX12_below__49 : decode cX12_below_ 49 = .ok (.getfield 188, 3) := by decide +kernel
theorem dX12_below__52 : decode cX12_below_ 52 = .ok (.invokevirtual 354, 3) := by decide +kernel
theorem dX12_below__55 : decode cX12_below_ 55 = .ok (.invokevirtual 333, 3) := by decide +kernel
theorem dX12_below__58 : decode cX12_below_ 58 = .ok (.aload_n 0, 1) := by decide +kernel
theorem dX12_below__59 : decode cX12_below_ 59 = .ok (.invokevirtual 453, 3) := by decide +kernel
theorem dX12_below__62 : decode cX12_below_ 62 = .ok (.ireturn, 1) := by decide +kernel
theorem eX12_below__0 : am_lim call mX12_below_ 0 [some (.ref a), l1] (S) σ = am_lim call mX12_below_ 1 [some (.ref a), l1] (.ref a :: S) σ := r_aload_n dX12_below__0 rfl
theorem eX12_below__1 : am_lim call mX12_below_ 1 [l0, l1] (S) σ = am_lim call mX12_below_ 2 [l0, l1] (.int 0 :: S) σ := r_iconst dX12_below__1 (by decide)
theorem eX12_below__2 (h : g_o σ a 12) : am_lim call mX12_below_ 2 [l0, l1] (.int x :: .ref a :: S) σ = am_lim call mX12_below_ 5 [l0, l1] (S) (am_sI σ a 0 x) := r_putI dX12_below__2 f_12_113 rfl rfl h
theorem eX12_below__5 : am_lim call mX12_below_ 5 [some (.ref a), l1] (S) σ = am_lim call mX12_below_ 6 [some (.ref a), l1] (.ref a :: S) σ := r_aload_n dX12_below__5 rfl
theorem eX12_below__6 : am_lim call mX12_below_ 6 [l0, l1] (S) σ = am_lim call mX12_below_ 7 [l0, l1] (.int 2 :: S) σ := r_iconst dX12_below__6 (by decide)
theorem eX12_below__7 (h : g_o σ b 12) : am_lim call mX12_below_ 7 [l0, l1] (.int v0 :: .ref b :: []) σ = am_k (call mX12_readsTypes [.ref b, .int v0] σ) (fun r σ1 => am_lim call mX12_below_ 10 [l0, l1] (r.toList ++ []) σ1) := r_kV (S1 := [.int v0]) dX12_below__7 mt_12_203 rfl h (Nat.le_of_ble_eq_true rfl)
theorem eX12_below__10 : am_lim call mX12_below_ 10 [l0, l1] (S) σ = am_lim call mX12_below_ 11 [l0, l1] (.int (-1) :: S) σ := r_iconst dX12_below__10 (by decide)
theorem eX12_below__11 : am_lim call mX12_below_ 11 [l0, l1] (.int y :: .int x :: S) σ = if x = y then am_lim call mX12_below_ 16 [l0, l1] (S) σ else am_lim call mX12_below_ 14 [l0, l1] (S) σ := r_icmpB 16 dX12_below__11 (by decide) rfl
theorem eX12_below__14 : am_lim call mX12_below_ 14 [l0, l1] (S) σ = am_lim call mX12_below_ 15 [l0, l1] (.int (-1) :: S) σ := r_iconst dX12_below__14 (by decide)
theorem eX12_below__15 : am_lim call mX12_below_ 15 [l0, l1] ([.int x]) σ = some (some (.int x), σ) := r_retI dX12_below__15 rfl
theorem eX12_below__16 : am_lim call mX12_below_ 16 [some (.ref a), l1] (S) σ = am_lim call mX12_below_ 17 [some (.ref a), l1] (.ref a :: S) σ := r_aload_n dX12_below__16 rfl
theorem eX12_below__17 : am_lim call mX12_below_ 17 [l0, l1] (S) σ = am_lim call mX12_below_ 18 [l0, l1] (.int 0 :: S) σ := r_iconst dX12_below__17 (by decide)
theorem eX12_below__18 (h : g_o σ a 12) : am_lim call mX12_below_ 18 [l0, l1] (.int x :: .ref a :: S) σ = am_lim call mX12_below_ 21 [l0, l1] (S) (am_sI σ a 2 x) := r_putI dX12_below__18 f_12_116 rfl rfl h
theorem eX12_below__21 : am_lim call mX12_below_ 21 [some (.ref a), l1] (S) σ = am_lim call mX12_below_ 22 [some (.ref a), l1] (.ref a :: S) σ := r_aload_n dX12_below__21 rfl
theorem eX12_below__22 : am_lim call mX12_below_ 22 [l0, l1] (S) σ = am_lim call mX12_below_ 23 [l0, l1] (.int 0 :: S) σ := r_iconst dX12_below__22 (by decide)
theorem eX12_below__23 (h : g_o σ a 12) (hx : x = 0 ∨ x = 1) : am_lim call mX12_below_ 23 [l0, l1] (.int x :: .ref a :: S) σ = am_lim call mX12_below_ 26 [l0, l1] (S) (am_sI σ a 37 x) := r_putZ dX12_below__23 f_12_447 rfl rfl h hx
theorem eX12_below__26 : am_lim call mX12_below_ 26 [some (.ref a), l1] (S) σ = am_lim call mX12_below_ 27 [some (.ref a), l1] (.ref a :: S) σ := r_aload_n dX12_below__26 rfl
theorem eX12_below__27 : am_lim call mX12_below_ 27 [l0, l1] (S) σ = am_lim call mX12_below_ 28 [l0, l1] (.int (-1) :: S) σ := r_iconst dX12_below__27 (by decide)
theorem eX12_below__28 (h : g_o σ a 12) : am_lim call mX12_below_ 28 [l0, l1] (.int x :: .ref a :: S) σ = am_lim call mX12_below_ 31 [l0, l1] (S) (am_sI σ a 41 x) := r_putI dX12_below__28 f_12_51 rfl rfl h
theorem eX12_below__31 : am_lim call mX12_below_ 31 [some (.ref a), l1] (S) σ = am_lim call mX12_below_ 32 [some (.ref a), l1] (.ref a :: S) σ := r_aload_n dX12_below__31 rfl
theorem eX12_below__32 : am_lim call mX12_below_ 32 [l0, l1] (S) σ = am_lim call mX12_below_ 33 [l0, l1] (.int 0 :: S) σ := r_iconst dX12_below__32 (by decide)
theorem eX12_below__33 : am_lim call mX12_below_ 33 [l0, l1] (S) σ = am_lim call mX12_below_ 36 [l0, l1] (.int 1000000 :: S) σ := r_ldcw dX12_below__33 (by decide +kernel)
theorem eX12_below__36 (h : g_o σ b 12) : am_lim call mX12_below_ 36 [l0, l1] (.int v1 :: .int v0 :: .ref b :: []) σ = am_k (call mX12_clears [.ref b, .int v0, .int v1] σ) (fun r σ1 => am_lim call mX12_below_ 39 [l0, l1] (r.toList ++ []) σ1) := r_kV (S1 := [.int v1, .int v0]) dX12_below__36 mt_12_421 rfl h (Nat.le_of_ble_eq_true rfl)
theorem eX12_below__39 : am_lim call mX12_below_ 39 [some (.ref a), l1] (S) σ = am_lim call mX12_below_ 40 [some (.ref a), l1] (.ref a :: S) σ := r_aload_n dX12_below__39 rfl
theorem eX12_below__40 : am_lim call mX12_below_ 40 [l0, l1] (S) σ = am_lim call mX12_below_ 41 [l0, l1] (.int 0 :: S) σ := r_iconst dX12_below__40 (by decide)
theorem eX12_below__41 (h : g_o σ b 12) : am_lim call mX12_below_ 41 [l0, l1] (.int v0 :: .ref b :: []) σ = am_k (call mX12_typeFrom [.ref b, .int v0] σ) (fun r σ1 => am_lim call mX12_below_ 44 [l0, l1] (r.toList ++ []) σ1) := r_kV (S1 := [.int v0]) dX12_below__41 mt_12_354 rfl h (Nat.le_of_ble_eq_true rfl)
theorem eX12_below__44 : am_lim call mX12_below_ 44 [l0, l1] (.int x :: S) σ = am_lim call mX12_below_ 45 [l0, some (.int x)] (S) σ := r_istore_n dX12_below__44 rfl rfl rfl rfl
theorem eX12_below__45 : am_lim call mX12_below_ 45 [some (.ref a), l1] (S) σ = am_lim call mX12_below_ 46 [some (.ref a), l1] (.ref a :: S) σ := r_aload_n dX12_below__45 rfl
theorem eX12_below__46 : am_lim call mX12_below_ 46 [l0, some (.int x)] (S) σ = am_lim call mX12_below_ 47 [l0, some (.int x)] (.int x :: S) σ := r_iload_n dX12_below__46 rfl
theorem eX12_below__47 : am_lim call mX12_below_ 47 [some (.ref a), l1] (S) σ = am_lim call mX12_below_ 48 [some (.ref a), l1] (.ref a :: S) σ := r_aload_n dX12_below__47 rfl
theorem eX12_below__48 : am_lim call mX12_below_ 48 [some (.ref a), l1] (S) σ = am_lim call mX12_below_ 49 [some (.ref a), l1] (.ref a :: S) σ := r_aload_n dX12_below__48 rfl
theorem eX12_below__49 (h : g_o σ a 12) : am_lim call mX12_below_ 49 [l0, l1] (.ref a :: S) σ = am_lim call mX12_below_ 52 [l0, l1] (.int (g_I σ a 10) :: S) σ := r_getI dX12_below__49 f_12_188 rfl h
theorem eX12_below__52 (h : g_o σ b 12) : am_lim call mX12_below_ 52 [l0, l1] (.int v0 :: .ref b :: .int s0 :: .ref q1 :: []) σ = am_k (call mX12_typeFrom [.ref b, .int v0] σ) (fun r σ1 => am_lim call mX12_below_ 55 [l0, l1] (r.toList ++ .int s0 :: .ref q1 :: []) σ1) := r_kV (S1 := [.int v0]) dX12_below__52 mt_12_354 rfl h (Nat.le_of_ble_eq_true rfl)
theorem eX12_below__55 (h : g_o σ b 12) : am_lim call mX12_below_ 55 [l0, l1] (.int v1 :: .int v0 :: .ref b :: []) σ = am_k (call mX12_below [.ref b, .int v0, .int v1] σ) (fun r σ1 => am_lim call mX12_below_ 58 [l0, l1] (r.toList ++ []) σ1) := r_kV (S1 := [.int v1, .int v0]) dX12_below__55 mt_12_333 rfl h (Nat.le_of_ble_eq_true rfl)
theorem eX12_below__58 : am_lim call mX12_below_ 58 [some (.ref a), l1] (S) σ = am_lim call mX12_below_ 59 [some (.ref a), l1] (.ref a :: S) σ := r_aload_n dX12_below__58 rfl
theorem eX12_below__59 (h : g_o σ b 12) : am_lim call mX12_below_ 59 [l0, l1] (.ref b :: []) σ = am_k (call mX12_counted [.ref b] σ) (fun r σ1 => am_lim call mX12_below_ 62 [l0, l1] (r.toList ++ []) σ1) := r_kV (S1 := []) dX12_below__59 mt_12_453 rfl h (Nat.le_of_ble_eq_true rfl)
theorem eX12_below__62 : am_lim call mX12_below_ 62 [l0, l1] ([.int x]) σ = some (some (.int x), σ) := r_retI dX12_below__62 rfl
theorem nX12_below_ {d : Nat} : am_run (d + 1) mX12_below_ [.ref b] σ = am_lim (am_run d) mX12_below_ 0 [some (.ref b), none] [] σ := am_run_S rfl rfl rfl rfl
theorem dX12_readsTypes_0 : decode cX12_readsTypes 0 = .ok (.aload_n 0, 1) := by decide +kernel
theorem dX12_readsTypes_1 : decode cX12_readsTypes 1 = .ok (.invokevirtual 185, 3) := by decide +kernel
theorem dX12_readsTypes_4 : decode cX12_readsTypes 4 = .ok (.aload_n 0, 1) := by decide +kernel
theorem dX12_readsTypes_5 : decode cX12_readsTypes 5 = .ok (.iconst 1, 1) := by decide +kernel
theorem dX12_readsTypes_6 : decode cX12_readsTypes 6 = .ok (.iconst 0, 1) := by decide +kernel
theorem dX12_readsTypes_7 : decode cX12_readsTypes 7 = .ok (.invokevirtual 153, 3) := by decide +kernel
theorem dX12_readsTypes_10 : decode cX12_readsTypes 10 = .ok (.aload_n 0, 1) := by decide +kernel
theorem dX12_readsTypes_11 : decode cX12_readsTypes 11 = .ok (.aload_n 0, 1) := by decide +kernel
theorem dX12_readsTypes_12 : decode cX12_readsTypes 12 = .ok (.getfield 137, 3) := by decide +kernel
theorem dX12_readsTypes_15 : decode cX12_readsTypes 15 = .ok (.putfield 188, 3) := by decide +kernel
theorem dX12_readsTypes_18 : decode cX12_readsTypes 18 = .ok (.iload_n 1, 1) := by decide +kernel
theorem dX12_readsTypes_19 : decode cX12_readsTypes 19 = .ok (.iconst 2, 1) := by decide +kernel
theorem dX12_readsTypes_20 : decode cX12_readsTypes 20 = .ok (.if_icmp .ne 9, 3) := by decide +kernel
theorem dX12_readsTypes_23 : decode cX12_readsTypes 23 = .ok (.aload_n 0, 1) := by decide +kernel
theorem dX12_readsTypes_24 : decode cX12_readsTypes 24 = .ok (.iconst 1, 1) := by decide +kernel
theorem dX12_readsTypes_25 : decode cX12_readsTypes 25 = .ok (.iconst 0, 1) := by decide +kernel
theorem dX12_readsTypes_26 : decode cX12_readsTypes 26 = .ok (.invokevirtual 153, 3) := by decide +kernel
theorem dX12_readsTypes_29 : decode cX12_readsTypes 29 = .ok (.aload_n 0, 1) := by decide +kernel
theorem dX12_readsTypes_30 : decode cX12_readsTypes 30 = .ok (.invokevirtual 191, 3) := by decide +kernel
theorem dX12_readsTypes_33 : decode cX12_readsTypes 33 = .ok (.aload_n 0, 1) := by decide +kernel
theorem dX12_readsTypes_34 : decode cX12_readsTypes 34 = .ok (.getfield 134, 3) := by decide +kernel
theorem dX12_readsTypes_37 : decode cX12_readsTypes 37 = .ok (.ireturn, 1) := by decide +kernel
theorem eX12_readsTypes_0 : am_lim call mX12_readsTypes 0 [some (.ref a), l1] (S) σ = am_lim call mX12_readsTypes 1 [some (.ref a), l1] (.ref a :: S) σ := r_aload_n dX12_readsTypes_0 rfl
theorem eX12_readsTypes_1 (h : g_o σ b 12) : am_lim call mX12_readsTypes 1 [l0, l1] (.ref b :: []) σ = am_k (call mX12_begins [.ref b] σ) (fun r σ1 => am_lim call mX12_readsTypes 4 [l0, l1] (r.toList ++ []) σ1) := r_kV (S1 := []) dX12_readsTypes_1 mt_12_185 rfl h (Nat.le_of_ble_eq_true rfl)
theorem eX12_readsTypes_4 : am_lim call mX12_readsTypes 4 [some (.ref a), l1] (S) σ = am_lim call mX12_readsTypes 5 [some (.ref a), l1] (.ref a :: S) σ := r_aload_n dX12_readsTypes_4 rfl
theorem eX12_readsTypes_5 : am_lim call mX12_readsTypes 5 [l0, l1] (S) σ = am_lim call mX12_readsTypes 6 [l0, l1] (.int 1 :: S) σ := r_iconst dX12_readsTypes_5 (by decide)
theorem eX12_readsTypes_6 : am_lim call mX12_readsTypes 6 [l0, l1] (S) σ = am_lim call mX12_readsTypes 7 [l0, l1] (.int 0 :: S) σ := r_iconst dX12_readsTypes_6 (by decide)
theorem eX12_readsTypes_7 (h : g_o σ b 12) : am_lim call mX12_readsTypes 7 [l0, l1] (.int v1 :: .int v0 :: .ref b :: []) σ = am_k (call mX12_readsType [.ref b, .int v0, .int v1] σ) (fun r σ1 => am_lim call mX12_readsTypes 10 [l0, l1] (r.toList ++ []) σ1) := r_kV (S1 := [.int v1, .int v0]) dX12_readsTypes_7 mt_12_153 rfl h (Nat.le_of_ble_eq_true rfl)
theorem eX12_readsTypes_10 : am_lim call mX12_readsTypes 10 [some (.ref a), l1] (S) σ = am_lim call mX12_readsTypes 11 [some (.ref a), l1] (.ref a :: S) σ := r_aload_n dX12_readsTypes_10 rfl
theorem eX12_readsTypes_11 : am_lim call mX12_readsTypes 11 [some (.ref a), l1] (S) σ = am_lim call mX12_readsTypes 12 [some (.ref a), l1] (.ref a :: S) σ := r_aload_n dX12_readsTypes_11 rfl
theorem eX12_readsTypes_12 (h : g_o σ a 12) : am_lim call mX12_readsTypes 12 [l0, l1] (.ref a :: S) σ = am_lim call mX12_readsTypes 15 [l0, l1] (.int (g_I σ a 6) :: S) σ := r_getI dX12_readsTypes_12 f_12_137 rfl h
theorem eX12_readsTypes_15 (h : g_o σ a 12) : am_lim call mX12_readsTypes 15 [l0, l1] (.int x :: .ref a :: S) σ = am_lim call mX12_readsTypes 18 [l0, l1] (S) (am_sI σ a 10 x) := r_putI dX12_readsTypes_15 f_12_188 rfl rfl h
theorem eX12_readsTypes_18 : am_lim call mX12_readsTypes 18 [l0, some (.int x)] (S) σ = am_lim call mX12_readsTypes 19 [l0, some (.int x)] (.int x :: S) σ := r_iload_n dX12_readsTypes_18 rfl
theorem eX12_readsTypes_19 : am_lim call mX12_readsTypes 19 [l0, l1] (S) σ = am_lim call mX12_readsTypes 20 [l0, l1] (.int 2 :: S) σ := r_iconst dX12_readsTypes_19 (by decide)
theorem eX12_readsTypes_20 : am_lim call mX12_readsTypes 20 [l0, l1] (.int y :: .int x :: S) σ = if x ≠ y then am_lim call mX12_readsTypes 29 [l0, l1] (S) σ else am_lim call mX12_readsTypes 23 [l0, l1] (S) σ := r_icmpB 29 dX12_readsTypes_20 (by decide) rfl
theorem eX12_readsTypes_23 : am_lim call mX12_readsTypes 23 [some (.ref a), l1] (S) σ = am_lim call mX12_readsTypes 24 [some (.ref a), l1] (.ref a :: S) σ := r_aload_n dX12_readsTypes_23 rfl
theorem eX12_readsTypes_24 : am_lim call mX12_readsTypes 24 [l0, l1] (S) σ = am_lim call mX12_readsTypes 25 [l0, l1] (.int 1 :: S) σ := r_iconst dX12_readsTypes_24 (by decide)
theorem eX12_readsTypes_25 : am_lim call mX12_readsTypes 25 [l0, l1] (S) σ = am_lim call mX12_readsTypes 26 [l0, l1] (.int 0 :: S) σ := r_iconst dX12_readsTypes_25 (by decide)
theorem eX12_readsTypes_26 (h : g_o σ b 12) : am_lim call mX12_readsTypes 26 [l0, l1] (.int v1 :: .int v0 :: .ref b :: []) σ = am_k (call mX12_readsType [.ref b, .int v0, .int v1] σ) (fun r σ1 => am_lim call mX12_readsTypes 29 [l0, l1] (r.toList ++ []) σ1) := r_kV (S1 := [.int v1, .int v0]) dX12_readsTypes_26 mt_12_153 rfl h (Nat.le_of_ble_eq_true rfl)
theorem eX12_readsTypes_29 : am_lim call mX12_readsTypes 29 [some (.ref a), l1] (S) σ = am_lim call mX12_readsTypes 30 [some (.ref a), l1] (.ref a :: S) σ := r_aload_n dX12_readsTypes_29 rfl
theorem eX12_readsTypes_30 (h : g_o σ b 12) : am_lim call mX12_readsTypes 30 [l0, l1] (.ref b :: []) σ = am_k (call mX12_endsText [.ref b] σ) (fun r σ1 => am_lim call mX12_readsTypes 33 [l0, l1] (r.toList ++ []) σ1) := r_kV (S1 := []) dX12_readsTypes_30 mt_12_191 rfl h (Nat.le_of_ble_eq_true rfl)
theorem eX12_readsTypes_33 : am_lim call mX12_readsTypes 33 [some (.ref a), l1] (S) σ = am_lim call mX12_readsTypes 34 [some (.ref a), l1] (.ref a :: S) σ := r_aload_n dX12_readsTypes_33 rfl
theorem eX12_readsTypes_34 (h : g_o σ a 12) : am_lim call mX12_readsTypes 34 [l0, l1] (.ref a :: S) σ = am_lim call mX12_readsTypes 37 [l0, l1] (.int (g_I σ a 4) :: S) σ := r_getI dX12_readsTypes_34 f_12_134 rfl h
theorem eX12_readsTypes_37 : am_lim call mX12_readsTypes 37 [l0, l1] ([.int x]) σ = some (some (.int x), σ) := r_retI dX12_readsTypes_37 rfl
theorem nX12_readsTypes {d : Nat} : am_run (d + 1) mX12_readsTypes [.ref b, .int v0] σ = am_lim (am_run d) mX12_readsTypes 0 [some (.ref b), some (.int v0)] [] σ := am_run_S rfl rfl rfl rfl
theorem dX12_readsType_0 : decode cX12_readsType 0 = .ok (.aload_n 0, 1) := by decide +kernel
theorem dX12_readsType_1 : decode cX12_readsType 1 = .ok (.getfield 134, 3) := by decide +kernel
theorem dX12_readsType_4 : decode cX12_readsType 4 = .ok (.iconst (-1), 1) := by decide +kernel
theorem dX12_readsType_5 : decode cX12_readsType 5 = .ok (.if_icmp .eq 4, 3) := by decide +kernel
theorem dX12_readsType_8 : decode cX12_readsType 8 = .ok (.return_, 1) := by decide +kernel
theorem dX12_readsType_9 : decode cX12_readsType 9 = .ok (.aload_n 0, 1) := by decide +kernel
theorem dX12_readsType_10 : decode cX12_readsType 10 = .ok (.invokevirtual 140, 3) := by decide +kernel
theorem dX12_readsType_13 : decode cX12_readsType 13 = .ok (.istore_n 3, 1) := by decide +kernel
theorem dX12_readsType_14 : decode cX12_readsType 14 = .ok (.aload_n 0, 1) := by decide +kernel
theorem dX12_readsType_15 : decode cX12_readsType 15 = .ok (.getfield 127, 3) := by decide +kernel
theorem dX12_readsType_18 : decode cX12_readsType 18 = .ok (.istore 4, 2) := by decide +kernel
theorem dX12_readsType_20 : decode cX12_readsType 20 = .ok (.iload_n 3, 1) := by decide +kernel
theorem dX12_readsType_21 : decode cX12_readsType 21 = .ok (.bipush 62, 2) := by decide +kernel
theorem dX12_readsType_23 : decode cX12_readsType 23 = .ok (.if_icmp .eq 9, 3) := by decide +kernel
theorem dX12_readsType_26 : decode cX12_readsType 26 = .ok (.iload_n 3, 1) := by decide +kernel
theorem dX12_readsType_27 : decode cX12_readsType 27 = .ok (.bipush 44, 2) := by decide +kernel
theorem dX12_readsType_29 : decode cX12_readsType 29 = .ok (.if_icmp .ne 7, 3) := by decide +kernel
theorem dX12_readsType_32 : decode cX12_readsType 32 = .ok (.iconst 1, 1) := by decide +kernel
theorem dX12_readsType_33 : decode cX12_readsType 33 = .ok (.goto 4, 3) := by decide +kernel
theorem dX12_readsType_36 : decode cX12_readsType 36 = .ok (.iconst 0, 1) := by decide +kernel
theorem dX12_readsType_37 : decode cX12_readsType 37 = .ok (.istore 5, 2) := by decide +kernel
theorem dX12_readsType_39 : decode cX12_readsType 39 = .ok (.iload_n 3, 1) := by decide +kernel
theorem dX12_readsType_40 : decode cX12_readsType 40 = .ok (.bipush 78, 2) := by decide +kernel
theorem dX12_readsType_42 : decode cX12_readsType 42 = .ok (.if_icmp .eq 15, 3) := by decide +kernel
theorem dX12_readsType_45 : decode cX12_readsType 45 = .ok (.iload_n 3, 1) := by decide +kernel
theorem dX12_readsType_46 : decode cX12_readsType 46 = .ok (.bipush 66, 2) := by decide +kernel
theorem dX12_readsType_48 : decode cX12_readsType 48 = .ok (.if_icmp .eq 9, 3) := by decide +kernel
theorem dX12_readsType_51 : decode cX12_readsType 51 = .ok (.iload_n 3, 1) := by decide +kernel
theorem dX12_readsType_52 : decode cX12_readsType 52 = .ok (.bipush 79, 2) := by decide +kernel
theorem dX12_readsType_54 : decode cX12_readsType 54 = .ok (.if_icmp .ne 7, 3) := by decide +kernel
theorem dX12_readsType_57 : decode cX12_readsType 57 = .ok (.iconst 1, 1) := by decide +kernel
theorem dX12_readsType_58 : decode cX12_readsType 58 = .ok (.goto 4, 3) := by decide +kernel
theorem dX12_readsType_61 : decode cX12_readsType 61 = .ok (.iconst 0, 1) := by decide +kernel
theorem dX12_readsType_62 : decode cX12_readsType 62 = .ok (.istore 6, 2) := by decide +kernel
theorem dX12_readsType_64 : decode cX12_readsType 64 = .ok (.iload 5, 2) := by decide +kernel
theorem dX12_readsType_66 : decode cX12_readsType 66 = .ok (.ifCond .ne 21, 3) := by decide +kernel
theorem dX12_readsType_69 : decode cX12_readsType 69 = .ok (.iload 6, 2) := by decide +kernel
theorem dX12_readsType_71 : decode cX12_readsType 71 = .ok (.ifCond .ne 16, 3) := by decide +kernel
theorem dX12_readsType_74 : decode cX12_readsType 74 = .ok (.iload_n 3, 1) := by decide +kernel
theorem dX12_readsType_75 : decode cX12_readsType 75 = .ok (.bipush 33, 2) := by decide +kernel
theorem dX12_readsType_77 : decode cX12_readsType 77 = .ok (.if_icmp .eq 10, 3) := by decide +kernel
theorem dX12_readsType_80 : decode cX12_readsType 80 = .ok (.iload_n 3, 1) := by decide +kernel
theorem dX12_readsType_81 : decode cX12_readsType 81 = .ok (.invokestatic 143, 3) := by decide +kernel
theorem dX12_readsType_84 : decode cX12_readsType 84 = .ok (.ifCond .eq 9, 3) := by decide +kernel
theorem dX12_readsType_87 : decode cX12_readsType 87 = .ok (.iload_n 1, 1) := by decide +kernel
theorem dX12_readsType_88 : decode cX12_readsType 88 = .ok (.bipush 20, 2) := by decide +kernel
theorem dX12_readsType_90 : decode cX12_readsType 90 = .ok (.if_icmp .le 11, 3) := by decide +kernel
theorem dX12_readsType_93 : decode cX12_readsType 93 = .ok (.aload_n 0, 1) := by decide +kernel
theorem dX12_readsType_94 : decode cX12_readsType 94 = .ok (.iload 4, 2) := by decide +kernel
theorem dX12_readsType_96 : decode cX12_readsType 96 = .ok (.invokevirtual 147, 3) := by decide +kernel
theorem dX12_readsType_99 : decode cX12_readsType 99 = .ok (.pop, 1) := by decide +kernel
theorem dX12_readsType_100 : decode cX12_readsType 100 = .ok (.return_, 1) := by decide +kernel
theorem dX12_readsType_101 : decode cX12_readsType 101 = .ok (.aload_n 0, 1) := by decide +kernel
theorem dX12_readsType_102 : decode cX12_readsType 102 = .ok (.dup, 1) := by decide +kernel
theorem dX12_readsType_103 : decode cX12_readsType 103 = .ok (.getfield 127, 3) := by decide +kernel
theorem dX12_readsType_106 : decode cX12_readsType 106 = .ok (.iconst 1, 1) := by decide +kernel
theorem dX12_readsType_107 : decode cX12_readsType 107 = .ok (.iadd, 1) := by decide +kernel
theorem dX12_readsType_108 : decode cX12_readsType 108 = .ok (.putfield 127, 3) := by decide +kernel
theorem dX12_readsType_111 : decode cX12_readsType 111 = .ok (.iload 6, 2) := by decide +kernel
theorem dX12_readsType_113 : decode cX12_readsType 113 = .ok (.ifCond .eq 29, 3) := by decide +kernel
theorem dX12_readsType_116 : decode cX12_readsType 116 = .ok (.aload_n 0, 1) := by decide +kernel
theorem dX12_readsType_117 : decode cX12_readsType 117 = .ok (.iload_n 3, 1) := by decide +kernel
theorem dX12_readsType_118 : decode cX12_readsType 118 = .ok (.bipush 78, 2) := by decide +kernel
theorem dX12_readsType_120 : decode cX12_readsType 120 = .ok (.if_icmp .ne 7, 3) := by decide +kernel
theorem dX12_readsType_123 : decode cX12_readsType 123 = .ok (.iconst 0, 1) := by decide +kernel
theorem dX12_readsType_124 : decode cX12_readsType 124 = .ok (.goto 14, 3) := by decide +kernel
theorem dX12_readsType_127 : decode cX12_readsType 127 = .ok (.iload_n 3, 1) := by decide +kernel
theorem dX12_readsType_128 : decode cX12_readsType 128 = .ok (.bipush 66, 2) := by decide +kernel
theorem dX12_readsType_130 : decode cX12_readsType 130 = .ok (.if_icmp .ne 7, 3) := by decide +kernel
theorem dX12_readsType_133 : decode cX12_readsType 133 = .ok (.iconst 1, 1) := by decide +kernel
theorem dX12_readsType_134 : decode cX12_readsType 134 = .ok (.goto 4, 3) := by decide +kernel
theorem dX12_readsType_137 : decode cX12_readsType 137 = .ok (.iconst 2, 1) := by decide +kernel
theorem dX12_readsType_138 : decode cX12_readsType 138 = .ok (.invokevirtual 150, 3) := by decide +kernel
theorem dX12_readsType_141 : decode cX12_readsType 141 = .ok (.return_, 1) := by decide +kernel
theorem dX12_readsType_142 : decode cX12_readsType 142 = .ok (.iload_n 3, 1) := by decide +kernel
theorem dX12_readsType_143 : decode cX12_readsType 143 = .ok (.invokestatic 143, 3) := by decide +kernel
theorem dX12_readsType_146 : decode cX12_readsType 146 = .ok (.ifCond .eq 55, 3) := by decide +kernel
theorem dX12_readsType_149 : decode cX12_readsType 149 = .ok (.iload_n 2, 1) := by decide +kernel
theorem dX12_readsType_150 : decode cX12_readsType 150 = .ok (.iconst 1, 1) := by decide +kernel
theorem dX12_readsType_151 : decode cX12_readsType 151 = .ok (.isub, 1) := by decide +kernel
theorem dX12_readsType_152 : decode cX12_readsType 152 = .ok (.istore 7, 2) := by decide +kernel
theorem dX12_readsType_154 : decode cX12_readsType 154 = .ok (.iload 7, 2) := by decide +kernel
theorem dX12_readsType_156 : decode cX12_readsType 156 = .ok (.ifCond .lt 23, 3) := by decide +kernel
theorem dX12_readsType_159 : decode cX12_readsType 159 = .ok (.aload_n 0, 1) := by decide +kernel
theorem dX12_readsType_160 : decode cX12_readsType 160 = .ok (.getfield 17, 3) := by decide +kernel
theorem dX12_readsType_163 : decode cX12_readsType 163 = .ok (.iload 7, 2) := by decide +kernel
theorem dX12_readsType_165 : decode cX12_readsType 165 = .ok (.iaload, 1) := by decide +kernel
theorem dX12_readsType_166 : decode cX12_readsType 166 = .ok (.iload_n 3, 1) := by decide +kernel
theorem dX12_readsType_167 : decode cX12_readsType 167 = .ok (.bipush 97, 2) := by decide +kernel
theorem dX12_readsType_169 : decode cX12_readsType 169 = .ok (.isub, 1) := by decide +kernel
theorem dX12_readsType_170 : decode cX12_readsType 170 = .ok (.if_icmp .eq 9, 3) := by decide +kernel
theorem dX12_readsType_173 : decode cX12_readsType 173 = .ok (.iinc 7 (-1), 3) := by decide +kernel
theorem dX12_readsType_176 : decode cX12_readsType 176 = .ok (.goto (-22), 3) := by decide +kernel
theorem dX12_readsType_179 : decode cX12_readsType 179 = .ok (.iload 7, 2) := by decide +kernel
theorem dX12_readsType_181 : decode cX12_readsType 181 = .ok (.ifCond .ge 10, 3) := by decide +kernel
theorem dX12_readsType_184 : decode cX12_readsType 184 = .ok (.aload_n 0, 1) := by decide +kernel
theorem dX12_readsType_185 : decode cX12_readsType 185 = .ok (.iload 4, 2) := by decide +kernel
theorem dX12_readsType_187 : decode cX12_readsType 187 = .ok (.invokevirtual 147, 3) := by decide +kernel
theorem dX12_readsType_190 : decode cX12_readsType 190 = .ok (.pop, 1) := by decide +kernel
theorem dX12_readsType_191 : decode cX12_readsType 191 = .ok (.aload_n 0, 1) := by decide +kernel
theorem dX12_readsType_192 : decode cX12_readsType 192 = .ok (.bipush 10, 2) := by decide +kernel
theorem dX12_readsType_194 : decode cX12_readsType 194 = .ok (.iload 7, 2) := by decide +kernel
theorem dX12_readsType_196 : decode cX12_readsType 196 = .ok (.iadd, 1) := by decide +kernel
theorem dX12_readsType_197 : decode cX12_readsType 197 = .ok (.invokevirtual 150, 3) := by decide +kernel
theorem dX12_readsType_200 : decode cX12_readsType 200 = .ok (.return_, 1) := by decide +kernel
theorem dX12_readsType_201 : decode cX12_readsType 201 = .ok (.iload 5, 2) := by decide +kernel
theorem dX12_readsType_203 : decode cX12_readsType 203 = .ok (.ifCond .eq 35, 3) := by decide +kernel
theorem dX12_readsType_206 : decode cX12_readsType 206 = .ok (.aload_n 0, 1) := by decide +kernel
theorem dX12_readsType_207 : decode cX12_readsType 207 = .ok (.iload_n 3, 1) := by decide +kernel
theorem dX12_readsType_208 : decode cX12_readsType 208 = .ok (.bipush 62, 2) := by decide +kernel
theorem dX12_readsType_210 : decode cX12_readsType 210 = .ok (.if_icmp .ne 7, 3) := by decide +kernel
theorem dX12_readsType_213 : decode cX12_readsType 213 = .ok (.iconst 3, 1) := by decide +kernel
theorem dX12_readsType_214 : decode cX12_readsType 214 = .ok (.goto 4, 3) := by decide +kernel
theorem dX12_readsType_217 : decode cX12_readsType 217 = .ok (.iconst 4, 1) := by decide +kernel
theorem dX12_readsType_218 : decode cX12_readsType 218 = .ok (.invokevirtual 150, 3) := by decide +kernel
theorem dX12_readsType_221 : decode cX12_readsType 221 = .ok (.aload_n 0, 1) := by decide +kernel
theorem dX12_readsType_222 : decode cX12_readsType 222 = .ok (.iload_n 1, 1) := by decide +kernel
theorem dX12_readsType_223 : decode cX12_readsType 223 = .ok (.iconst 1, 1) := by decide +kernel
theorem dX12_readsType_224 : decode cX12_readsType 224 = .ok (.iadd, 1) := by decide +kernel
theorem dX12_readsType_225 : decode cX12_readsType 225 = .ok (.iload_n 2, 1) := by decide +kernel
theorem dX12_readsType_226 : decode cX12_readsType 226 = .ok (.invokevirtual 153, 3) := by decide +kernel
theorem dX12_readsType_229 : decode cX12_readsType 229 = .ok (.aload_n 0, 1) := by decide +kernel
theorem dX12_readsType_230 : decode cX12_readsType 230 = .ok (.iload_n 1, 1) := by decide +kernel
theorem dX12_readsType_231 : decode cX12_readsType 231 = .ok (.iconst 1, 1) := by decide +kernel
theorem dX12_readsType_232 : decode cX12_readsType 232 = .ok (.iadd, 1) := by decide +kernel
theorem dX12_readsType_233 : decode cX12_readsType 233 = .ok (.iload_n 2, 1) := by decide +kernel
theorem dX12_readsType_234 : decode cX12_readsType 234 = .ok (.invokevirtual 153, 3) := by decide +kernel
theorem dX12_readsType_237 : decode cX12_readsType 237 = .ok (.return_, 1) := by decide +kernel
theorem dX12_readsType_238 : decode cX12_readsType 238 = .ok (.aload_n 0, 1) := by decide +kernel
theorem dX12_readsType_239 : decode cX12_readsType 239 = .ok (.iconst 5, 1) := by decide +kernel
theorem dX12_readsType_240 : decode cX12_readsType 240 = .ok (.invokevirtual 150, 3) := by decide +kernel
theorem dX12_readsType_243 : decode cX12_readsType 243 = .ok (.aload_n 0, 1) := by decide +kernel
theorem dX12_readsType_244 : decode cX12_readsType 244 = .ok (.getfield 17, 3) := by decide +kernel
theorem dX12_readsType_247 : decode cX12_readsType 247 = .ok (.iload_n 2, 1) := by decide +kernel
theorem dX12_readsType_248 : decode cX12_readsType 248 = .ok (.aload_n 0, 1) := by decide +kernel
theorem dX12_readsType_249 : decode cX12_readsType 249 = .ok (.invokevirtual 157, 3) := by decide +kernel
theorem dX12_readsType_252 : decode cX12_readsType 252 = .ok (.iastore, 1) := by decide +kernel
theorem dX12_readsType_253 : decode cX12_readsType 253 = .ok (.aload_n 0, 1) := by decide +kernel
theorem dX12_readsType_254 : decode cX12_readsType 254 = .ok (.iload_n 1, 1) := by decide +kernel
theorem dX12_readsType_255 : decode cX12_readsType 255 = .ok (.iconst 1, 1) := by decide +kernel
theorem dX12_readsType_256 : decode cX12_readsType 256 = .ok (.iadd, 1) := by decide +kernel
theorem dX12_readsType_257 : decode cX12_readsType 257 = .ok (.iload_n 2, 1) := by decide +kernel
theorem dX12_readsType_258 : decode cX12_readsType 258 = .ok (.iconst 1, 1) := by decide +kernel
theorem dX12_readsType_259 : decode cX12_readsType 259 = .ok (.iadd, 1) := by decide +kernel
theorem dX12_readsType_260 : decode cX12_readsType 260 = .ok (.invokevirtual 153, 3) := by decide +kernel
theorem dX12_readsType_263 : decode cX12_readsType 263 = .ok (.return_, 1) := by decide +kernel
theorem eX12_readsType_0 : am_lim call mX12_readsType 0 [some (.ref a), l1, l2, l3, l4, l5, l6, l7] (S) σ = am_lim call mX12_readsType 1 [some (.ref a), l1, l2, l3, l4, l5, l6, l7] (.ref a :: S) σ := r_aload_n dX12_readsType_0 rfl
theorem eX12_readsType_1 (h : g_o σ a 12) : am_lim call mX12_readsType 1 [l0, l1, l2, l3, l4, l5, l6, l7] (.ref a :: S) σ = am_lim call mX12_readsType 4 [l0, l1, l2, l3, l4, l5, l6, l7] (.int (g_I σ a 4) :: S) σ := r_getI dX12_readsType_1 f_12_134 rfl h
theorem eX12_readsType_4 : am_lim call mX12_readsType 4 [l0, l1, l2, l3, l4, l5, l6, l7] (S) σ = am_lim call mX12_readsType 5 [l0, l1, l2, l3, l4, l5, l6, l7] (.int (-1) :: S) σ := r_iconst dX12_readsType_4 (by decide)
theorem eX12_readsType_5 : am_lim call mX12_readsType 5 [l0, l1, l2, l3, l4, l5, l6, l7] (.int y :: .int x :: S) σ = if x = y then am_lim call mX12_readsType 9 [l0, l1, l2, l3, l4, l5, l6, l7] (S) σ else am_lim call mX12_readsType 8 [l0, l1, l2, l3, l4, l5, l6, l7] (S) σ := r_icmpB 9 dX12_readsType_5 (by decide) rfl
theorem eX12_readsType_8 : am_lim call mX12_readsType 8 [l0, l1, l2, l3, l4, l5, l6, l7] ([]) σ = some (none, σ) := r_retV dX12_readsType_8 rfl
theorem eX12_readsType_9 : am_lim call mX12_readsType 9 [some (.ref a), l1, l2, l3, l4, l5, l6, l7] (S) σ = am_lim call mX12_readsType 10 [some (.ref a), l1, l2, l3, l4, l5, l6, l7] (.ref a :: S) σ := r_aload_n dX12_readsType_9 rfl
theorem eX12_readsType_10 (h : g_o σ b 12) : am_lim call mX12_readsType 10 [l0, l1, l2, l3, l4, l5, l6, l7] (.ref b :: []) σ = am_k (call mX12_look [.ref b] σ) (fun r σ1 => am_lim call mX12_readsType 13 [l0, l1, l2, l3, l4, l5, l6, l7] (r.toList ++ []) σ1) := r_kV (S1 := []) dX12_readsType_10 mt_12_140 rfl h (Nat.le_of_ble_eq_true rfl)
theorem eX12_readsType_13 : am_lim call mX12_readsType 13 [l0, l1, l2, l3, l4, l5, l6, l7] (.int x :: S) σ = am_lim call mX12_readsType 14 [l0, l1, l2, some (.int x), l4, l5, l6, l7] (S) σ := r_istore_n dX12_readsType_13 rfl rfl rfl rfl
theorem eX12_readsType_14 : am_lim call mX12_readsType 14 [some (.ref a), l1, l2, l3, l4, l5, l6, l7] (S) σ = am_lim call mX12_readsType 15 [some (.ref a), l1, l2, l3, l4, l5, l6, l7] (.ref a :: S) σ := r_aload_n dX12_readsType_14 rfl
theorem eX12_readsType_15 (h : g_o σ a 12) : am_lim call mX12_readsType 15 [l0, l1, l2, l3, l4, l5, l6, l7] (.ref a :: S) σ = am_lim call mX12_readsType 18 [l0, l1, l2, l3, l4, l5, l6, l7] (.int (g_I σ a 3) :: S) σ := r_getI dX12_readsType_15 f_12_127 rfl h
theorem eX12_readsType_18 : am_lim call mX12_readsType 18 [l0, l1, l2, l3, l4, l5, l6, l7] (.int x :: S) σ = am_lim call mX12_readsType 20 [l0, l1, l2, l3, some (.int x), l5, l6, l7] (S) σ := r_istore dX12_readsType_18 rfl rfl rfl rfl
theorem eX12_readsType_20 : am_lim call mX12_readsType 20 [l0, l1, l2, some (.int x), l4, l5, l6, l7] (S) σ = am_lim call mX12_readsType 21 [l0, l1, l2, some (.int x), l4, l5, l6, l7] (.int x :: S) σ := r_iload_n dX12_readsType_20 rfl
theorem eX12_readsType_21 : am_lim call mX12_readsType 21 [l0, l1, l2, l3, l4, l5, l6, l7] (S) σ = am_lim call mX12_readsType 23 [l0, l1, l2, l3, l4, l5, l6, l7] (.int 62 :: S) σ := r_bipush dX12_readsType_21 (by decide)
theorem eX12_readsType_23 : am_lim call mX12_readsType 23 [l0, l1, l2, l3, l4, l5, l6, l7] (.int y :: .int x :: S) σ = if x = y then am_lim call mX12_readsType 32 [l0, l1, l2, l3, l4, l5, l6, l7] (S) σ else am_lim call mX12_readsType 26 [l0, l1, l2, l3, l4, l5, l6, l7] (S) σ := r_icmpB 32 dX12_readsType_23 (by decide) rfl
theorem eX12_readsType_26 : am_lim call mX12_readsType 26 [l0, l1, l2, some (.int x), l4, l5, l6, l7] (S) σ = am_lim call mX12_readsType 27 [l0, l1, l2, some (.int x), l4, l5, l6, l7] (.int x :: S) σ := r_iload_n dX12_readsType_26 rfl
theorem eX12_readsType_27 : am_lim call mX12_readsType 27 [l0, l1, l2, l3, l4, l5, l6, l7] (S) σ = am_lim call mX12_readsType 29 [l0, l1, l2, l3, l4, l5, l6, l7] (.int 44 :: S) σ := r_bipush dX12_readsType_27 (by decide)
theorem eX12_readsType_29 : am_lim call mX12_readsType 29 [l0, l1, l2, l3, l4, l5, l6, l7] (.int y :: .int x :: S) σ = if x ≠ y then am_lim call mX12_readsType 36 [l0, l1, l2, l3, l4, l5, l6, l7] (S) σ else am_lim call mX12_readsType 32 [l0, l1, l2, l3, l4, l5, l6, l7] (S) σ := r_icmpB 36 dX12_readsType_29 (by decide) rfl
theorem eX12_readsType_36 : am_lim call mX12_readsType 36 [l0, l1, l2, l3, l4, l5, l6, l7] (S) σ = am_lim call mX12_readsType 37 [l0, l1, l2, l3, l4, l5, l6, l7] (.int 0 :: S) σ := r_iconst dX12_readsType_36 (by decide)
theorem eX12_readsType_37 : am_lim call mX12_readsType 37 [l0, l1, l2, l3, l4, l5, l6, l7] (.int x :: S) σ = am_lim call mX12_readsType 39 [l0, l1, l2, l3, l4, some (.int x), l6, l7] (S) σ := r_istore dX12_readsType_37 rfl rfl rfl rfl
theorem eX12_readsType_39 : am_lim call mX12_readsType 39 [l0, l1, l2, some (.int x), l4, l5, l6, l7] (S) σ = am_lim call mX12_readsType 40 [l0, l1, l2, some (.int x), l4, l5, l6, l7] (.int x :: S) σ := r_iload_n dX12_readsType_39 rfl
theorem eX12_readsType_40 : am_lim call mX12_readsType 40 [l0, l1, l2, l3, l4, l5, l6, l7] (S) σ = am_lim call mX12_readsType 42 [l0, l1, l2, l3, l4, l5, l6, l7] (.int 78 :: S) σ := r_bipush dX12_readsType_40 (by decide)
theorem eX12_readsType_42 : am_lim call mX12_readsType 42 [l0, l1, l2, l3, l4, l5, l6, l7] (.int y :: .int x :: S) σ = if x = y then am_lim call mX12_readsType 57 [l0, l1, l2, l3, l4, l5, l6, l7] (S) σ else am_lim call mX12_readsType 45 [l0, l1, l2, l3, l4, l5, l6, l7] (S) σ := r_icmpB 57 dX12_readsType_42 (by decide) rfl
theorem eX12_readsType_45 : am_lim call mX12_readsType 45 [l0, l1, l2, some (.int x), l4, l5, l6, l7] (S) σ = am_lim call mX12_readsType 46 [l0, l1, l2, some (.int x), l4, l5, l6, l7] (.int x :: S) σ := r_iload_n dX12_readsType_45 rfl
theorem eX12_readsType_46 : am_lim call mX12_readsType 46 [l0, l1, l2, l3, l4, l5, l6, l7] (S) σ = am_lim call mX12_readsType 48 [l0, l1, l2, l3, l4, l5, l6, l7] (.int 66 :: S) σ := r_bipush dX12_readsType_46 (by decide)
theorem eX12_readsType_48 : am_lim call mX12_readsType 48 [l0, l1, l2, l3, l4, l5, l6, l7] (.int y :: .int x :: S) σ = if x = y then am_lim call mX12_readsType 57 [l0, l1, l2, l3, l4, l5, l6, l7] (S) σ else am_lim call mX12_readsType 51 [l0, l1, l2, l3, l4, l5, l6, l7] (S) σ := r_icmpB 57 dX12_readsType_48 (by decide) rfl
theorem eX12_readsType_51 : am_lim call mX12_readsType 51 [l0, l1, l2, some (.int x), l4, l5, l6, l7] (S) σ = am_lim call mX12_readsType 52 [l0, l1, l2, some (.int x), l4, l5, l6, l7] (.int x :: S) σ := r_iload_n dX12_readsType_51 rfl
theorem eX12_readsType_52 : am_lim call mX12_readsType 52 [l0, l1, l2, l3, l4, l5, l6, l7] (S) σ = am_lim call mX12_readsType 54 [l0, l1, l2, l3, l4, l5, l6, l7] (.int 79 :: S) σ := r_bipush dX12_readsType_52 (by decide)
theorem eX12_readsType_54 : am_lim call mX12_readsType 54 [l0, l1, l2, l3, l4, l5, l6, l7] (.int y :: .int x :: S) σ = if x ≠ y then am_lim call mX12_readsType 61 [l0, l1, l2, l3, l4, l5, l6, l7] (S) σ else am_lim call mX12_readsType 57 [l0, l1, l2, l3, l4, l5, l6, l7] (S) σ := r_icmpB 61 dX12_readsType_54 (by decide) rfl
theorem eX12_readsType_61 : am_lim call mX12_readsType 61 [l0, l1, l2, l3, l4, l5, l6, l7] (S) σ = am_lim call mX12_readsType 62 [l0, l1, l2, l3, l4, l5, l6, l7] (.int 0 :: S) σ := r_iconst dX12_readsType_61 (by decide)
theorem eX12_readsType_62 : am_lim call mX12_readsType 62 [l0, l1, l2, l3, l4, l5, l6, l7] (.int x :: S) σ = am_lim call mX12_readsType 64 [l0, l1, l2, l3, l4, l5, some (.int x), l7] (S) σ := r_istore dX12_readsType_62 rfl rfl rfl rfl
theorem eX12_readsType_64 : am_lim call mX12_readsType 64 [l0, l1, l2, l3, l4, some (.int x), l6, l7] (S) σ = am_lim call mX12_readsType 66 [l0, l1, l2, l3, l4, some (.int x), l6, l7] (.int x :: S) σ := r_iload dX12_readsType_64 rfl
theorem eX12_readsType_66 : am_lim call mX12_readsType 66 [l0, l1, l2, l3, l4, l5, l6, l7] (.int x :: S) σ = if x ≠ 0 then am_lim call mX12_readsType 87 [l0, l1, l2, l3, l4, l5, l6, l7] (S) σ else am_lim call mX12_readsType 69 [l0, l1, l2, l3, l4, l5, l6, l7] (S) σ := r_ifB 87 dX12_readsType_66 (by decide) rfl
theorem eX12_readsType_69 : am_lim call mX12_readsType 69 [l0, l1, l2, l3, l4, l5, some (.int x), l7] (S) σ = am_lim call mX12_readsType 71 [l0, l1, l2, l3, l4, l5, some (.int x), l7] (.int x :: S) σ := r_iload dX12_readsType_69 rfl
theorem eX12_readsType_71 : am_lim call mX12_readsType 71 [l0, l1, l2, l3, l4, l5, l6, l7] (.int x :: S) σ = if x ≠ 0 then am_lim call mX12_readsType 87 [l0, l1, l2, l3, l4, l5, l6, l7] (S) σ else am_lim call mX12_readsType 74 [l0, l1, l2, l3, l4, l5, l6, l7] (S) σ := r_ifB 87 dX12_readsType_71 (by decide) rfl
theorem eX12_readsType_74 : am_lim call mX12_readsType 74 [l0, l1, l2, some (.int x), l4, l5, l6, l7] (S) σ = am_lim call mX12_readsType 75 [l0, l1, l2, some (.int x), l4, l5, l6, l7] (.int x :: S) σ := r_iload_n dX12_readsType_74 rfl
theorem eX12_readsType_75 : am_lim call mX12_readsType 75 [l0, l1, l2, l3, l4, l5, l6, l7] (S) σ = am_lim call mX12_readsType 77 [l0, l1, l2, l3, l4, l5, l6, l7] (.int 33 :: S) σ := r_bipush dX12_readsType_75 (by decide)
theorem eX12_readsType_77 : am_lim call mX12_readsType 77 [l0, l1, l2, l3, l4, l5, l6, l7] (.int y :: .int x :: S) σ = if x = y then am_lim call mX12_readsType 87 [l0, l1, l2, l3, l4, l5, l6, l7] (S) σ else am_lim call mX12_readsType 80 [l0, l1, l2, l3, l4, l5, l6, l7] (S) σ := r_icmpB 87 dX12_readsType_77 (by decide) rfl
theorem eX12_readsType_80 : am_lim call mX12_readsType 80 [l0, l1, l2, some (.int x), l4, l5, l6, l7] (S) σ = am_lim call mX12_readsType 81 [l0, l1, l2, some (.int x), l4, l5, l6, l7] (.int x :: S) σ := r_iload_n dX12_readsType_80 rfl
theorem eX12_readsType_81 : am_lim call mX12_readsType 81 [l0, l1, l2, l3, l4, l5, l6, l7] (.int v0 :: []) σ = am_k (call mX12_isLetter [.int v0] σ) (fun r σ1 => am_lim call mX12_readsType 84 [l0, l1, l2, l3, l4, l5, l6, l7] (r.toList ++ []) σ1) := r_kS (S1 := [.int v0]) dX12_readsType_81 ⟨rfl, rfl, rfl⟩ mt_12_143 rfl (Nat.le_of_ble_eq_true rfl)
theorem eX12_readsType_84 : am_lim call mX12_readsType 84 [l0, l1, l2, l3, l4, l5, l6, l7] (.int x :: S) σ = if x = 0 then am_lim call mX12_readsType 93 [l0, l1, l2, l3, l4, l5, l6, l7] (S) σ else am_lim call mX12_readsType 87 [l0, l1, l2, l3, l4, l5, l6, l7] (S) σ := r_ifB 93 dX12_readsType_84 (by decide) rfl
theorem eX12_readsType_93 : am_lim call mX12_readsType 93 [some (.ref a), l1, l2, l3, l4, l5, l6, l7] (S) σ = am_lim call mX12_readsType 94 [some (.ref a), l1, l2, l3, l4, l5, l6, l7] (.ref a :: S) σ := r_aload_n dX12_readsType_93 rfl
theorem eX12_readsType_94 : am_lim call mX12_readsType 94 [l0, l1, l2, l3, some (.int x), l5, l6, l7] (S) σ = am_lim call mX12_readsType 96 [l0, l1, l2, l3, some (.int x), l5, l6, l7] (.int x :: S) σ := r_iload dX12_readsType_94 rfl
theorem eX12_readsType_96 (h : g_o σ b 12) : am_lim call mX12_readsType 96 [l0, l1, l2, l3, l4, l5, l6, l7] (.int v0 :: .ref b :: []) σ = am_k (call mX12_fails [.ref b, .int v0] σ) (fun r σ1 => am_lim call mX12_readsType 99 [l0, l1, l2, l3, l4, l5, l6, l7] (r.toList ++ []) σ1) := r_kV (S1 := [.int v0]) dX12_readsType_96 mt_12_147 rfl h (Nat.le_of_ble_eq_true rfl)
theorem eX12_readsType_99 : am_lim call mX12_readsType 99 [l0, l1, l2, l3, l4, l5, l6, l7] (.int x :: S) σ = am_lim call mX12_readsType 100 [l0, l1, l2, l3, l4, l5, l6, l7] (S) σ := r_popI dX12_readsType_99
theorem eX12_readsType_100 : am_lim call mX12_readsType 100 [l0, l1, l2, l3, l4, l5, l6, l7] ([]) σ = some (none, σ) := r_retV dX12_readsType_100 rfl
theorem eX12_readsType_87 : am_lim call mX12_readsType 87 [l0, some (.int x), l2, l3, l4, l5, l6, l7] (S) σ = am_lim call mX12_readsType 88 [l0, some (.int x), l2, l3, l4, l5, l6, l7] (.int x :: S) σ := r_iload_n dX12_readsType_87 rfl
theorem eX12_readsType_88 : am_lim call mX12_readsType 88 [l0, l1, l2, l3, l4, l5, l6, l7] (S) σ = am_lim call mX12_readsType 90 [l0, l1, l2, l3, l4, l5, l6, l7] (.int 20 :: S) σ := r_bipush dX12_readsType_88 (by decide)
theorem eX12_readsType_90 : am_lim call mX12_readsType 90 [l0, l1, l2, l3, l4, l5, l6, l7] (.int y :: .int x :: S) σ = if x ≤ y then am_lim call mX12_readsType 101 [l0, l1, l2, l3, l4, l5, l6, l7] (S) σ else am_lim call mX12_readsType 93 [l0, l1, l2, l3, l4, l5, l6, l7] (S) σ := r_icmpB 101 dX12_readsType_90 (by decide) rfl
theorem eX12_readsType_101 : am_lim call mX12_readsType 101 [some (.ref a), l1, l2, l3, l4, l5, l6, l7] (S) σ = am_lim call mX12_readsType 102 [some (.ref a), l1, l2, l3, l4, l5, l6, l7] (.ref a :: S) σ := r_aload_n dX12_readsType_101 rfl
theorem eX12_readsType_102 : am_lim call mX12_readsType 102 [l0, l1, l2, l3, l4, l5, l6, l7] (.ref a :: S) σ = am_lim call mX12_readsType 103 [l0, l1, l2, l3, l4, l5, l6, l7] (.ref a :: .ref a :: S) σ := r_dupA dX12_readsType_102
theorem eX12_readsType_103 (h : g_o σ a 12) : am_lim call mX12_readsType 103 [l0, l1, l2, l3, l4, l5, l6, l7] (.ref a :: S) σ = am_lim call mX12_readsType 106 [l0, l1, l2, l3, l4, l5, l6, l7] (.int (g_I σ a 3) :: S) σ := r_getI dX12_readsType_103 f_12_127 rfl h
theorem eX12_readsType_106 : am_lim call mX12_readsType 106 [l0, l1, l2, l3, l4, l5, l6, l7] (S) σ = am_lim call mX12_readsType 107 [l0, l1, l2, l3, l4, l5, l6, l7] (.int 1 :: S) σ := r_iconst dX12_readsType_106 (by decide)
theorem eX12_readsType_107 : am_lim call mX12_readsType 107 [l0, l1, l2, l3, l4, l5, l6, l7] (.int y :: .int x :: S) σ = am_lim call mX12_readsType 108 [l0, l1, l2, l3, l4, l5, l6, l7] (.int (x + y) :: S) σ := r_iadd dX12_readsType_107
theorem eX12_readsType_108 (h : g_o σ a 12) : am_lim call mX12_readsType 108 [l0, l1, l2, l3, l4, l5, l6, l7] (.int x :: .ref a :: S) σ = am_lim call mX12_readsType 111 [l0, l1, l2, l3, l4, l5, l6, l7] (S) (am_sI σ a 3 x) := r_putI dX12_readsType_108 f_12_127 rfl rfl h
theorem eX12_readsType_111 : am_lim call mX12_readsType 111 [l0, l1, l2, l3, l4, l5, some (.int x), l7] (S) σ = am_lim call mX12_readsType 113 [l0, l1, l2, l3, l4, l5, some (.int x), l7] (.int x :: S) σ := r_iload dX12_readsType_111 rfl
theorem eX12_readsType_113 : am_lim call mX12_readsType 113 [l0, l1, l2, l3, l4, l5, l6, l7] (.int x :: S) σ = if x = 0 then am_lim call mX12_readsType 142 [l0, l1, l2, l3, l4, l5, l6, l7] (S) σ else am_lim call mX12_readsType 116 [l0, l1, l2, l3, l4, l5, l6, l7] (S) σ := r_ifB 142 dX12_readsType_113 (by decide) rfl
theorem eX12_readsType_116 : am_lim call mX12_readsType 116 [some (.ref a), l1, l2, l3, l4, l5, l6, l7] (S) σ = am_lim call mX12_readsType 117 [some (.ref a), l1, l2, l3, l4, l5, l6, l7] (.ref a :: S) σ := r_aload_n dX12_readsType_116 rfl
theorem eX12_readsType_117 : am_lim call mX12_readsType 117 [l0, l1, l2, some (.int x), l4, l5, l6, l7] (S) σ = am_lim call mX12_readsType 118 [l0, l1, l2, some (.int x), l4, l5, l6, l7] (.int x :: S) σ := r_iload_n dX12_readsType_117 rfl
theorem eX12_readsType_118 : am_lim call mX12_readsType 118 [l0, l1, l2, l3, l4, l5, l6, l7] (S) σ = am_lim call mX12_readsType 120 [l0, l1, l2, l3, l4, l5, l6, l7] (.int 78 :: S) σ := r_bipush dX12_readsType_118 (by decide)
theorem eX12_readsType_120 : am_lim call mX12_readsType 120 [l0, l1, l2, l3, l4, l5, l6, l7] (.int y :: .int x :: S) σ = if x ≠ y then am_lim call mX12_readsType 127 [l0, l1, l2, l3, l4, l5, l6, l7] (S) σ else am_lim call mX12_readsType 123 [l0, l1, l2, l3, l4, l5, l6, l7] (S) σ := r_icmpB 127 dX12_readsType_120 (by decide) rfl
theorem eX12_readsType_123 : am_lim call mX12_readsType 123 [l0, l1, l2, l3, l4, l5, l6, l7] (S) σ = am_lim call mX12_readsType 124 [l0, l1, l2, l3, l4, l5, l6, l7] (.int 0 :: S) σ := r_iconst dX12_readsType_123 (by decide)
theorem eX12_readsType_124 : am_lim call mX12_readsType 124 [l0, l1, l2, l3, l4, l5, l6, l7] (S) σ = am_lim call mX12_readsType 138 [l0, l1, l2, l3, l4, l5, l6, l7] (S) σ := r_goto 138 dX12_readsType_124 (by decide)
theorem eX12_readsType_138 (h : g_o σ b 12) : am_lim call mX12_readsType 138 [l0, l1, l2, l3, l4, l5, l6, l7] (.int v0 :: .ref b :: []) σ = am_k (call mX12_puts [.ref b, .int v0] σ) (fun r σ1 => am_lim call mX12_readsType 141 [l0, l1, l2, l3, l4, l5, l6, l7] (r.toList ++ []) σ1) := r_kV (S1 := [.int v0]) dX12_readsType_138 mt_12_150 rfl h (Nat.le_of_ble_eq_true rfl)
theorem eX12_readsType_141 : am_lim call mX12_readsType 141 [l0, l1, l2, l3, l4, l5, l6, l7] ([]) σ = some (none, σ) := r_retV dX12_readsType_141 rfl
theorem eX12_readsType_127 : am_lim call mX12_readsType 127 [l0, l1, l2, some (.int x), l4, l5, l6, l7] (S) σ = am_lim call mX12_readsType 128 [l0, l1, l2, some (.int x), l4, l5, l6, l7] (.int x :: S) σ := r_iload_n dX12_readsType_127 rfl
theorem eX12_readsType_128 : am_lim call mX12_readsType 128 [l0, l1, l2, l3, l4, l5, l6, l7] (S) σ = am_lim call mX12_readsType 130 [l0, l1, l2, l3, l4, l5, l6, l7] (.int 66 :: S) σ := r_bipush dX12_readsType_128 (by decide)
theorem eX12_readsType_130 : am_lim call mX12_readsType 130 [l0, l1, l2, l3, l4, l5, l6, l7] (.int y :: .int x :: S) σ = if x ≠ y then am_lim call mX12_readsType 137 [l0, l1, l2, l3, l4, l5, l6, l7] (S) σ else am_lim call mX12_readsType 133 [l0, l1, l2, l3, l4, l5, l6, l7] (S) σ := r_icmpB 137 dX12_readsType_130 (by decide) rfl
theorem eX12_readsType_133 : am_lim call mX12_readsType 133 [l0, l1, l2, l3, l4, l5, l6, l7] (S) σ = am_lim call mX12_readsType 134 [l0, l1, l2, l3, l4, l5, l6, l7] (.int 1 :: S) σ := r_iconst dX12_readsType_133 (by decide)
theorem eX12_readsType_134 : am_lim call mX12_readsType 134 [l0, l1, l2, l3, l4, l5, l6, l7] (S) σ = am_lim call mX12_readsType 138 [l0, l1, l2, l3, l4, l5, l6, l7] (S) σ := r_goto 138 dX12_readsType_134 (by decide)
theorem eX12_readsType_137 : am_lim call mX12_readsType 137 [l0, l1, l2, l3, l4, l5, l6, l7] (S) σ = am_lim call mX12_readsType 138 [l0, l1, l2, l3, l4, l5, l6, l7] (.int 2 :: S) σ := r_iconst dX12_readsType_137 (by decide)
theorem eX12_readsType_142 : am_lim call mX12_readsType 142 [l0, l1, l2, some (.int x), l4, l5, l6, l7] (S) σ = am_lim call mX12_readsType 143 [l0, l1, l2, some (.int x), l4, l5, l6, l7] (.int x :: S) σ := r_iload_n dX12_readsType_142 rfl
theorem eX12_readsType_143 : am_lim call mX12_readsType 143 [l0, l1, l2, l3, l4, l5, l6, l7] (.int v0 :: []) σ = am_k (call mX12_isLetter [.int v0] σ) (fun r σ1 => am_lim call mX12_readsType 146 [l0, l1, l2, l3, l4, l5, l6, l7] (r.toList ++ []) σ1) := r_kS (S1 := [.int v0]) dX12_readsType_143 ⟨rfl, rfl, rfl⟩ mt_12_143 rfl (Nat.le_of_ble_eq_true rfl)
theorem eX12_readsType_146 : am_lim call mX12_readsType 146 [l0, l1, l2, l3, l4, l5, l6, l7] (.int x :: S) σ = if x = 0 then am_lim call mX12_readsType 201 [l0, l1, l2, l3, l4, l5, l6, l7] (S) σ else am_lim call mX12_readsType 149 [l0, l1, l2, l3, l4, l5, l6, l7] (S) σ := r_ifB 201 dX12_readsType_146 (by decide) rfl
theorem eX12_readsType_149 : am_lim call mX12_readsType 149 [l0, l1, some (.int x), l3, l4, l5, l6, l7] (S) σ = am_lim call mX12_readsType 150 [l0, l1, some (.int x), l3, l4, l5, l6, l7] (.int x :: S) σ := r_iload_n dX12_readsType_149 rfl
theorem eX12_readsType_150 : am_lim call mX12_readsType 150 [l0, l1, l2, l3, l4, l5, l6, l7] (S) σ = am_lim call mX12_readsType 151 [l0, l1, l2, l3, l4, l5, l6, l7] (.int 1 :: S) σ := r_iconst dX12_readsType_150 (by decide)
theorem eX12_readsType_151 : am_lim call mX12_readsType 151 [l0, l1, l2, l3, l4, l5, l6, l7] (.int y :: .int x :: S) σ = am_lim call mX12_readsType 152 [l0, l1, l2, l3, l4, l5, l6, l7] (.int (x - y) :: S) σ := r_isub dX12_readsType_151
theorem eX12_readsType_152 : am_lim call mX12_readsType 152 [l0, l1, l2, l3, l4, l5, l6, l7] (.int x :: S) σ = am_lim call mX12_readsType 154 [l0, l1, l2, l3, l4, l5, l6, some (.int x)] (S) σ := r_istore dX12_readsType_152 rfl rfl rfl rfl
theorem eX12_readsType_154 : am_lim call mX12_readsType 154 [l0, l1, l2, l3, l4, l5, l6, some (.int x)] (S) σ = am_lim call mX12_readsType 156 [l0, l1, l2, l3, l4, l5, l6, some (.int x)] (.int x :: S) σ := r_iload dX12_readsType_154 rfl
theorem eX12_readsType_156 : am_lim call mX12_readsType 156 [l0, l1, l2, l3, l4, l5, l6, l7] (.int x :: S) σ = if x < 0 then am_lim call mX12_readsType 179 [l0, l1, l2, l3, l4, l5, l6, l7] (S) σ else am_lim call mX12_readsType 159 [l0, l1, l2, l3, l4, l5, l6, l7] (S) σ := r_ifB 179 dX12_readsType_156 (by decide) rfl
theorem eX12_readsType_159 : am_lim call mX12_readsType 159 [some (.ref a), l1, l2, l3, l4, l5, l6, l7] (S) σ = am_lim call mX12_readsType 160 [some (.ref a), l1, l2, l3, l4, l5, l6, l7] (.ref a :: S) σ := r_aload_n dX12_readsType_159 rfl
theorem eX12_readsType_160 (h : g_o σ a 12) : am_lim call mX12_readsType 160 [l0, l1, l2, l3, l4, l5, l6, l7] (.ref a :: S) σ = am_lim call mX12_readsType 163 [l0, l1, l2, l3, l4, l5, l6, l7] (va_rf (g_R σ a 7) :: S) σ := r_getR dX12_readsType_160 f_12_17 rfl h
theorem eX12_readsType_163 : am_lim call mX12_readsType 163 [l0, l1, l2, l3, l4, l5, l6, some (.int x)] (S) σ = am_lim call mX12_readsType 165 [l0, l1, l2, l3, l4, l5, l6, some (.int x)] (.int x :: S) σ := r_iload dX12_readsType_163 rfl
theorem eX12_readsType_165 {n : Nat} (h : g_a σ a n) (hi : am_in x n) : am_lim call mX12_readsType 165 [l0, l1, l2, l3, l4, l5, l6, l7] (.int x :: .ref a :: S) σ = am_lim call mX12_readsType 166 [l0, l1, l2, l3, l4, l5, l6, l7] (.int (g_I σ a x.toNatClampNeg) :: S) σ := r_iald dX12_readsType_165 h hi
theorem eX12_readsType_166 : am_lim call mX12_readsType 166 [l0, l1, l2, some (.int x), l4, l5, l6, l7] (S) σ = am_lim call mX12_readsType 167 [l0, l1, l2, some (.int x), l4, l5, l6, l7] (.int x :: S) σ := r_iload_n dX12_readsType_166 rfl
theorem eX12_readsType_167 : am_lim call mX12_readsType 167 [l0, l1, l2, l3, l4, l5, l6, l7] (S) σ = am_lim call mX12_readsType 169 [l0, l1, l2, l3, l4, l5, l6, l7] (.int 97 :: S) σ := r_bipush dX12_readsType_167 (by decide)
theorem eX12_readsType_169 : am_lim call mX12_readsType 169 [l0, l1, l2, l3, l4, l5, l6, l7] (.int y :: .int x :: S) σ = am_lim call mX12_readsType 170 [l0, l1, l2, l3, l4, l5, l6, l7] (.int (x - y) :: S) σ := r_isub dX12_readsType_169
theorem eX12_readsType_170 : am_lim call mX12_readsType 170 [l0, l1, l2, l3, l4, l5, l6, l7] (.int y :: .int x :: S) σ = if x = y then am_lim call mX12_readsType 179 [l0, l1, l2, l3, l4, l5, l6, l7] (S) σ else am_lim call mX12_readsType 173 [l0, l1, l2, l3, l4, l5, l6, l7] (S) σ := r_icmpB 179 dX12_readsType_170 (by decide) rfl
theorem eX12_readsType_173 : am_lim call mX12_readsType 173 [l0, l1, l2, l3, l4, l5, l6, some (.int x)] (S) σ = am_lim call mX12_readsType 176 [l0, l1, l2, l3, l4, l5, l6, some (.int (x + (-1)))] (S) σ := r_iinc dX12_readsType_173 rfl (by decide) rfl rfl rfl rfl
theorem eX12_readsType_176 : am_lim call mX12_readsType 176 [l0, l1, l2, l3, l4, l5, l6, l7] (S) σ = am_lim call mX12_readsType 154 [l0, l1, l2, l3, l4, l5, l6, l7] (S) σ := r_goto 154 dX12_readsType_176 (by decide)
theorem eX12_readsType_179 : am_lim call mX12_readsType 179 [l0, l1, l2, l3, l4, l5, l6, some (.int x)] (S) σ = am_lim call mX12_readsType 181 [l0, l1, l2, l3, l4, l5, l6, some (.int x)] (.int x :: S) σ := r_iload dX12_readsType_179 rfl
theorem eX12_readsType_181 : am_lim call mX12_readsType 181 [l0, l1, l2, l3, l4, l5, l6, l7] (.int x :: S) σ = if 0 ≤ x then am_lim call mX12_readsType 191 [l0, l1, l2, l3, l4, l5, l6, l7] (S) σ else am_lim call mX12_readsType 184 [l0, l1, l2, l3, l4, l5, l6, l7] (S) σ := r_ifB 191 dX12_readsType_181 (by decide) rfl
theorem eX12_readsType_184 : am_lim call mX12_readsType 184 [some (.ref a), l1, l2, l3, l4, l5, l6, l7] (S) σ = am_lim call mX12_readsType 185 [some (.ref a), l1, l2, l3, l4, l5, l6, l7] (.ref a :: S) σ := r_aload_n dX12_readsType_184 rfl
theorem eX12_readsType_185 : am_lim call mX12_readsType 185 [l0, l1, l2, l3, some (.int x), l5, l6, l7] (S) σ = am_lim call mX12_readsType 187 [l0, l1, l2, l3, some (.int x), l5, l6, l7] (.int x :: S) σ := r_iload dX12_readsType_185 rfl
theorem eX12_readsType_187 (h : g_o σ b 12) : am_lim call mX12_readsType 187 [l0, l1, l2, l3, l4, l5, l6, l7] (.int v0 :: .ref b :: []) σ = am_k (call mX12_fails [.ref b, .int v0] σ) (fun r σ1 => am_lim call mX12_readsType 190 [l0, l1, l2, l3, l4, l5, l6, l7] (r.toList ++ []) σ1) := r_kV (S1 := [.int v0]) dX12_readsType_187 mt_12_147 rfl h (Nat.le_of_ble_eq_true rfl)
theorem eX12_readsType_190 : am_lim call mX12_readsType 190 [l0, l1, l2, l3, l4, l5, l6, l7] (.int x :: S) σ = am_lim call mX12_readsType 191 [l0, l1, l2, l3, l4, l5, l6, l7] (S) σ := r_popI dX12_readsType_190
theorem eX12_readsType_191 : am_lim call mX12_readsType 191 [some (.ref a), l1, l2, l3, l4, l5, l6, l7] (S) σ = am_lim call mX12_readsType 192 [some (.ref a), l1, l2, l3, l4, l5, l6, l7] (.ref a :: S) σ := r_aload_n dX12_readsType_191 rfl
theorem eX12_readsType_192 : am_lim call mX12_readsType 192 [l0, l1, l2, l3, l4, l5, l6, l7] (S) σ = am_lim call mX12_readsType 194 [l0, l1, l2, l3, l4, l5, l6, l7] (.int 10 :: S) σ := r_bipush dX12_readsType_192 (by decide)
theorem eX12_readsType_194 : am_lim call mX12_readsType 194 [l0, l1, l2, l3, l4, l5, l6, some (.int x)] (S) σ = am_lim call mX12_readsType 196 [l0, l1, l2, l3, l4, l5, l6, some (.int x)] (.int x :: S) σ := r_iload dX12_readsType_194 rfl
theorem eX12_readsType_196 : am_lim call mX12_readsType 196 [l0, l1, l2, l3, l4, l5, l6, l7] (.int y :: .int x :: S) σ = am_lim call mX12_readsType 197 [l0, l1, l2, l3, l4, l5, l6, l7] (.int (x + y) :: S) σ := r_iadd dX12_readsType_196
theorem eX12_readsType_197 (h : g_o σ b 12) : am_lim call mX12_readsType 197 [l0, l1, l2, l3, l4, l5, l6, l7] (.int v0 :: .ref b :: []) σ = am_k (call mX12_puts [.ref b, .int v0] σ) (fun r σ1 => am_lim call mX12_readsType 200 [l0, l1, l2, l3, l4, l5, l6, l7] (r.toList ++ []) σ1) := r_kV (S1 := [.int v0]) dX12_readsType_197 mt_12_150 rfl h (Nat.le_of_ble_eq_true rfl)
theorem eX12_readsType_200 : am_lim call mX12_readsType 200 [l0, l1, l2, l3, l4, l5, l6, l7] ([]) σ = some (none, σ) := r_retV dX12_readsType_200 rfl
theorem eX12_readsType_201 : am_lim call mX12_readsType 201 [l0, l1, l2, l3, l4, some (.int x), l6, l7] (S) σ = am_lim call mX12_readsType 203 [l0, l1, l2, l3, l4, some (.int x), l6, l7] (.int x :: S) σ := r_iload dX12_readsType_201 rfl
theorem eX12_readsType_203 : am_lim call mX12_readsType 203 [l0, l1, l2, l3, l4, l5, l6, l7] (.int x :: S) σ = if x = 0 then am_lim call mX12_readsType 238 [l0, l1, l2, l3, l4, l5, l6, l7] (S) σ else am_lim call mX12_readsType 206 [l0, l1, l2, l3, l4, l5, l6, l7] (S) σ := r_ifB 238 dX12_readsType_203 (by decide) rfl
theorem eX12_readsType_206 : am_lim call mX12_readsType 206 [some (.ref a), l1, l2, l3, l4, l5, l6, l7] (S) σ = am_lim call mX12_readsType 207 [some (.ref a), l1, l2, l3, l4, l5, l6, l7] (.ref a :: S) σ := r_aload_n dX12_readsType_206 rfl
theorem eX12_readsType_207 : am_lim call mX12_readsType 207 [l0, l1, l2, some (.int x), l4, l5, l6, l7] (S) σ = am_lim call mX12_readsType 208 [l0, l1, l2, some (.int x), l4, l5, l6, l7] (.int x :: S) σ := r_iload_n dX12_readsType_207 rfl
theorem eX12_readsType_208 : am_lim call mX12_readsType 208 [l0, l1, l2, l3, l4, l5, l6, l7] (S) σ = am_lim call mX12_readsType 210 [l0, l1, l2, l3, l4, l5, l6, l7] (.int 62 :: S) σ := r_bipush dX12_readsType_208 (by decide)
theorem eX12_readsType_210 : am_lim call mX12_readsType 210 [l0, l1, l2, l3, l4, l5, l6, l7] (.int y :: .int x :: S) σ = if x ≠ y then am_lim call mX12_readsType 217 [l0, l1, l2, l3, l4, l5, l6, l7] (S) σ else am_lim call mX12_readsType 213 [l0, l1, l2, l3, l4, l5, l6, l7] (S) σ := r_icmpB 217 dX12_readsType_210 (by decide) rfl
theorem eX12_readsType_213 : am_lim call mX12_readsType 213 [l0, l1, l2, l3, l4, l5, l6, l7] (S) σ = am_lim call mX12_readsType 214 [l0, l1, l2, l3, l4, l5, l6, l7] (.int 3 :: S) σ := r_iconst dX12_readsType_213 (by decide)
theorem eX12_readsType_214 : am_lim call mX12_readsType 214 [l0, l1, l2, l3, l4, l5, l6, l7] (S) σ = am_lim call mX12_readsType 218 [l0, l1, l2, l3, l4, l5, l6, l7] (S) σ := r_goto 218 dX12_readsType_214 (by decide)
theorem eX12_readsType_218 (h : g_o σ b 12) : am_lim call mX12_readsType 218 [l0, l1, l2, l3, l4, l5, l6, l7] (.int v0 :: .ref b :: []) σ = am_k (call mX12_puts [.ref b, .int v0] σ) (fun r σ1 => am_lim call mX12_readsType 221 [l0, l1, l2, l3, l4, l5, l6, l7] (r.toList ++ []) σ1) := r_kV (S1 := [.int v0]) dX12_readsType_218 mt_12_150 rfl h (Nat.le_of_ble_eq_true rfl)
theorem eX12_readsType_221 : am_lim call mX12_readsType 221 [some (.ref a), l1, l2, l3, l4, l5, l6, l7] (S) σ = am_lim call mX12_readsType 222 [some (.ref a), l1, l2, l3, l4, l5, l6, l7] (.ref a :: S) σ := r_aload_n dX12_readsType_221 rfl
theorem eX12_readsType_222 : am_lim call mX12_readsType 222 [l0, some (.int x), l2, l3, l4, l5, l6, l7] (S) σ = am_lim call mX12_readsType 223 [l0, some (.int x), l2, l3, l4, l5, l6, l7] (.int x :: S) σ := r_iload_n dX12_readsType_222 rfl
theorem eX12_readsType_223 : am_lim call mX12_readsType 223 [l0, l1, l2, l3, l4, l5, l6, l7] (S) σ = am_lim call mX12_readsType 224 [l0, l1, l2, l3, l4, l5, l6, l7] (.int 1 :: S) σ := r_iconst dX12_readsType_223 (by decide)
theorem eX12_readsType_224 : am_lim call mX12_readsType 224 [l0, l1, l2, l3, l4, l5, l6, l7] (.int y :: .int x :: S) σ = am_lim call mX12_readsType 225 [l0, l1, l2, l3, l4, l5, l6, l7] (.int (x + y) :: S) σ := r_iadd dX12_readsType_224
theorem eX12_readsType_225 : am_lim call mX12_readsType 225 [l0, l1, some (.int x), l3, l4, l5, l6, l7] (S) σ = am_lim call mX12_readsType 226 [l0, l1, some (.int x), l3, l4, l5, l6, l7] (.int x :: S) σ := r_iload_n dX12_readsType_225 rfl
theorem eX12_readsType_226 (h : g_o σ b 12) : am_lim call mX12_readsType 226 [l0, l1, l2, l3, l4, l5, l6, l7] (.int v1 :: .int v0 :: .ref b :: []) σ = am_k (call mX12_readsType [.ref b, .int v0, .int v1] σ) (fun r σ1 => am_lim call mX12_readsType 229 [l0, l1, l2, l3, l4, l5, l6, l7] (r.toList ++ []) σ1) := r_kV (S1 := [.int v1, .int v0]) dX12_readsType_226 mt_12_153 rfl h (Nat.le_of_ble_eq_true rfl)
theorem eX12_readsType_229 : am_lim call mX12_readsType 229 [some (.ref a), l1, l2, l3, l4, l5, l6, l7] (S) σ = am_lim call mX12_readsType 230 [some (.ref a), l1, l2, l3, l4, l5, l6, l7] (.ref a :: S) σ := r_aload_n dX12_readsType_229 rfl
theorem eX12_readsType_230 : am_lim call mX12_readsType 230 [l0, some (.int x), l2, l3, l4, l5, l6, l7] (S) σ = am_lim call mX12_readsType 231 [l0, some (.int x), l2, l3, l4, l5, l6, l7] (.int x :: S) σ := r_iload_n dX12_readsType_230 rfl
theorem eX12_readsType_231 : am_lim call mX12_readsType 231 [l0, l1, l2, l3, l4, l5, l6, l7] (S) σ = am_lim call mX12_readsType 232 [l0, l1, l2, l3, l4, l5, l6, l7] (.int 1 :: S) σ := r_iconst dX12_readsType_231 (by decide)
theorem eX12_readsType_232 : am_lim call mX12_readsType 232 [l0, l1, l2, l3, l4, l5, l6, l7] (.int y :: .int x :: S) σ = am_lim call mX12_readsType 233 [l0, l1, l2, l3, l4, l5, l6, l7] (.int (x + y) :: S) σ := r_iadd dX12_readsType_232
theorem eX12_readsType_233 : am_lim call mX12_readsType 233 [l0, l1, some (.int x), l3, l4, l5, l6, l7] (S) σ = am_lim call mX12_readsType 234 [l0, l1, some (.int x), l3, l4, l5, l6, l7] (.int x :: S) σ := r_iload_n dX12_readsType_233 rfl
theorem eX12_readsType_234 (h : g_o σ b 12) : am_lim call mX12_readsType 234 [l0, l1, l2, l3, l4, l5, l6, l7] (.int v1 :: .int v0 :: .ref b :: []) σ = am_k (call mX12_readsType [.ref b, .int v0, .int v1] σ) (fun r σ1 => am_lim call mX12_readsType 237 [l0, l1, l2, l3, l4, l5, l6, l7] (r.toList ++ []) σ1) := r_kV (S1 := [.int v1, .int v0]) dX12_readsType_234 mt_12_153 rfl h (Nat.le_of_ble_eq_true rfl)
theorem eX12_readsType_237 : am_lim call mX12_readsType 237 [l0, l1, l2, l3, l4, l5, l6, l7] ([]) σ = some (none, σ) := r_retV dX12_readsType_237 rfl
theorem eX12_readsType_217 : am_lim call mX12_readsType 217 [l0, l1, l2, l3, l4, l5, l6, l7] (S) σ = am_lim call mX12_readsType 218 [l0, l1, l2, l3, l4, l5, l6, l7] (.int 4 :: S) σ := r_iconst dX12_readsType_217 (by decide)
theorem eX12_readsType_238 : am_lim call mX12_readsType 238 [some (.ref a), l1, l2, l3, l4, l5, l6, l7] (S) σ = am_lim call mX12_readsType 239 [some (.ref a), l1, l2, l3, l4, l5, l6, l7] (.ref a :: S) σ := r_aload_n dX12_readsType_238 rfl
theorem eX12_readsType_239 : am_lim call mX12_readsType 239 [l0, l1, l2, l3, l4, l5, l6, l7] (S) σ = am_lim call mX12_readsType 240 [l0, l1, l2, l3, l4, l5, l6, l7] (.int 5 :: S) σ := r_iconst dX12_readsType_239 (by decide)
theorem eX12_readsType_240 (h : g_o σ b 12) : am_lim call mX12_readsType 240 [l0, l1, l2, l3, l4, l5, l6, l7] (.int v0 :: .ref b :: []) σ = am_k (call mX12_puts [.ref b, .int v0] σ) (fun r σ1 => am_lim call mX12_readsType 243 [l0, l1, l2, l3, l4, l5, l6, l7] (r.toList ++ []) σ1) := r_kV (S1 := [.int v0]) dX12_readsType_240 mt_12_150 rfl h (Nat.le_of_ble_eq_true rfl)
theorem eX12_readsType_243 : am_lim call mX12_readsType 243 [some (.ref a), l1, l2, l3, l4, l5, l6, l7] (S) σ = am_lim call mX12_readsType 244 [some (.ref a), l1, l2, l3, l4, l5, l6, l7] (.ref a :: S) σ := r_aload_n dX12_readsType_243 rfl
theorem eX12_readsType_244 (h : g_o σ a 12) : am_lim call mX12_readsType 244 [l0, l1, l2, l3, l4, l5, l6, l7] (.ref a :: S) σ = am_lim call mX12_readsType 247 [l0, l1, l2, l3, l4, l5, l6, l7] (va_rf (g_R σ a 7) :: S) σ := r_getR dX12_readsType_244 f_12_17 rfl h
theorem eX12_readsType_247 : am_lim call mX12_readsType 247 [l0, l1, some (.int x), l3, l4, l5, l6, l7] (S) σ = am_lim call mX12_readsType 248 [l0, l1, some (.int x), l3, l4, l5, l6, l7] (.int x :: S) σ := r_iload_n dX12_readsType_247 rfl
theorem eX12_readsType_248 : am_lim call mX12_readsType 248 [some (.ref a), l1, l2, l3, l4, l5, l6, l7] (S) σ = am_lim call mX12_readsType 249 [some (.ref a), l1, l2, l3, l4, l5, l6, l7] (.ref a :: S) σ := r_aload_n dX12_readsType_248 rfl
theorem eX12_readsType_249 (h : g_o σ b 12) : am_lim call mX12_readsType 249 [l0, l1, l2, l3, l4, l5, l6, l7] (.ref b :: .int s0 :: .ref q1 :: []) σ = am_k (call mX12_letter [.ref b] σ) (fun r σ1 => am_lim call mX12_readsType 252 [l0, l1, l2, l3, l4, l5, l6, l7] (r.toList ++ .int s0 :: .ref q1 :: []) σ1) := r_kV (S1 := []) dX12_readsType_249 mt_12_157 rfl h (Nat.le_of_ble_eq_true rfl)
theorem eX12_readsType_252 {n : Nat} (h : g_a σ a n) (hi : am_in x n) : am_lim call mX12_readsType 252 [l0, l1, l2, l3, l4, l5, l6, l7] (.int y :: .int x :: .ref a :: S) σ = am_lim call mX12_readsType 253 [l0, l1, l2, l3, l4, l5, l6, l7] (S) (am_sI σ a x.toNatClampNeg y) := r_iast dX12_readsType_252 h hi
theorem eX12_readsType_253 : am_lim call mX12_readsType 253 [some (.ref a), l1, l2, l3, l4, l5, l6, l7] (S) σ = am_lim call mX12_readsType 254 [some (.ref a), l1, l2, l3, l4, l5, l6, l7] (.ref a :: S) σ := r_aload_n dX12_readsType_253 rfl
theorem eX12_readsType_254 : am_lim call mX12_readsType 254 [l0, some (.int x), l2, l3, l4, l5, l6, l7] (S) σ = am_lim call mX12_readsType 255 [l0, some (.int x), l2, l3, l4, l5, l6, l7] (.int x :: S) σ := r_iload_n dX12_readsType_254 rfl
theorem eX12_readsType_255 : am_lim call mX12_readsType 255 [l0, l1, l2, l3, l4, l5, l6, l7] (S) σ = am_lim call mX12_readsType 256 [l0, l1, l2, l3, l4, l5, l6, l7] (.int 1 :: S) σ := r_iconst dX12_readsType_255 (by decide)
theorem eX12_readsType_256 : am_lim call mX12_readsType 256 [l0, l1, l2, l3, l4, l5, l6, l7] (.int y :: .int x :: S) σ = am_lim call mX12_readsType 257 [l0, l1, l2, l3, l4, l5, l6, l7] (.int (x + y) :: S) σ := r_iadd dX12_readsType_256
theorem eX12_readsType_257 : am_lim call mX12_readsType 257 [l0, l1, some (.int x), l3, l4, l5, l6, l7] (S) σ = am_lim call mX12_readsType 258 [l0, l1, some (.int x), l3, l4, l5, l6, l7] (.int x :: S) σ := r_iload_n dX12_readsType_257 rfl
theorem eX12_readsType_258 : am_lim call mX12_readsType 258 [l0, l1, l2, l3, l4, l5, l6, l7] (S) σ = am_lim call mX12_readsType 259 [l0, l1, l2, l3, l4, l5, l6, l7] (.int 1 :: S) σ := r_iconst dX12_readsType_258 (by decide)
theorem eX12_readsType_259 : am_lim call mX12_readsType 259 [l0, l1, l2, l3, l4, l5, l6, l7] (.int y :: .int x :: S) σ = am_lim call mX12_readsType 260 [l0, l1, l2, l3, l4, l5, l6, l7] (.int (x + y) :: S) σ := r_iadd dX12_readsType_259
theorem eX12_readsType_260 (h : g_o σ b 12) : am_lim call mX12_readsType 260 [l0, l1, l2, l3, l4, l5, l6, l7] (.int v1 :: .int v0 :: .ref b :: []) σ = am_k (call mX12_readsType [.ref b, .int v0, .int v1] σ) (fun r σ1 => am_lim call mX12_readsType 263 [l0, l1, l2, l3, l4, l5, l6, l7] (r.toList ++ []) σ1) := r_kV (S1 := [.int v1, .int v0]) dX12_readsType_260 mt_12_153 rfl h (Nat.le_of_ble_eq_true rfl)
theorem eX12_readsType_263 : am_lim call mX12_readsType 263 [l0, l1, l2, l3, l4, l5, l6, l7] ([]) σ = some (none, σ) := r_retV dX12_readsType_263 rfl
theorem eX12_readsType_57 : am_lim call mX12_readsType 57 [l0, l1, l2, l3, l4, l5, l6, l7] (S) σ = am_lim call mX12_readsType 58 [l0, l1, l2, l3, l4, l5, l6, l7] (.int 1 :: S) σ := r_iconst dX12_readsType_57 (by decide)
theorem eX12_readsType_58 : am_lim call mX12_readsType 58 [l0, l1, l2, l3, l4, l5, l6, l7] (S) σ = am_lim call mX12_readsType 62 [l0, l1, l2, l3, l4, l5, l6, l7] (S) σ := r_goto 62 dX12_readsType_58 (by decide)
theorem eX12_readsType_32 : am_lim call mX12_readsType 32 [l0, l1, l2, l3, l4, l5, l6, l7] (S) σ = am_lim call mX12_readsType 33 [l0, l1, l2, l3, l4, l5, l6, l7] (.int 1 :: S) σ := r_iconst dX12_readsType_32 (by decide)
theorem eX12_readsType_33 : am_lim call mX12_readsType 33 [l0, l1, l2, l3, l4, l5, l6, l7] (S) σ = am_lim call mX12_readsType 37 [l0, l1, l2, l3, l4, l5, l6, l7] (S) σ := r_goto 37 dX12_readsType_33 (by decide)
theorem nX12_readsType {d : Nat} : am_run (d + 1) mX12_readsType [.ref b, .int v0, .int v1] σ = am_lim (am_run d) mX12_readsType 0 [some (.ref b), some (.int v0), some (.int v1), none, none, none, none, none] [] σ := am_run_S rfl rfl rfl rfl
theorem dX11_shelf_0 : decode cX11_shelf 0 = .ok (.aload_n 0, 1) := by decide +kernel
theorem dX11_shelf_1 : decode cX11_shelf 1 = .ok (.getfield 22, 3) := by decide +kernel
theorem dX11_shelf_4 : decode cX11_shelf 4 = .ok (.iload_n 1, 1) := by decide +kernel
theorem dX11_shelf_5 : decode cX11_shelf 5 = .ok (.invokevirtual 215, 3) := by decide +kernel
theorem dX11_shelf_8 : decode cX11_shelf 8 = .ok (.ifCond .ne 5, 3) := by decide +kernel
theorem dX11_shelf_11 : decode cX11_shelf 11 = .ok (.iconst (-1), 1) := by decide +kernel
theorem dX11_shelf_12 : decode cX11_shelf 12 = .ok (.ireturn, 1) := by decide +kernel
theorem dX11_shelf_13 : decode cX11_shelf 13 = .ok (.aload_n 0, 1) := by decide +kernel
theorem dX11_shelf_14 : decode cX11_shelf 14 = .ok (.getfield 22, 3) := by decide +kernel
theorem dX11_shelf_17 : decode cX11_shelf 17 = .ok (.getfield 218, 3) := by decide +kernel
theorem dX11_shelf_20 : decode cX11_shelf 20 = .ok (.iload_n 1, 1) := by decide +kernel
theorem dX11_shelf_21 : decode cX11_shelf 21 = .ok (.aaload, 1) := by decide +kernel
theorem dX11_shelf_22 : decode cX11_shelf 22 = .ok (.astore_n 3, 1) := by decide +kernel
theorem dX11_shelf_23 : decode cX11_shelf 23 = .ok (.iload_n 2, 1) := by decide +kernel
theorem dX11_shelf_24 : decode cX11_shelf 24 = .ok (.tableswitch 91 0 4 #[36, 46, 51, 68, 78], 36) := by decide +kernel
theorem dX11_shelf_60 : decode cX11_shelf 60 = .ok (.aload_n 0, 1) := by decide +kernel
theorem dX11_shelf_61 : decode cX11_shelf 61 = .ok (.getfield 22, 3) := by decide +kernel
theorem dX11_shelf_64 : decode cX11_shelf 64 = .ok (.getfield 221, 3) := by decide +kernel
theorem dX11_shelf_67 : decode cX11_shelf 67 = .ok (.iload_n 1, 1) := by decide +kernel
theorem dX11_shelf_68 : decode cX11_shelf 68 = .ok (.iaload, 1) := by decide +kernel
theorem dX11_shelf_69 : decode cX11_shelf 69 = .ok (.ireturn, 1) := by decide +kernel
theorem dX11_shelf_70 : decode cX11_shelf 70 = .ok (.aload_n 3, 1) := by decide +kernel
theorem dX11_shelf_71 : decode cX11_shelf 71 = .ok (.getfield 162, 3) := by decide +kernel
theorem dX11_shelf_74 : decode cX11_shelf 74 = .ok (.ireturn, 1) := by decide +kernel
theorem dX11_shelf_75 : decode cX11_shelf 75 = .ok (.aload_n 0, 1) := by decide +kernel
theorem dX11_shelf_76 : decode cX11_shelf 76 = .ok (.getfield 66, 3) := by decide +kernel
theorem dX11_shelf_79 : decode cX11_shelf 79 = .ok (.aload_n 3, 1) := by decide +kernel
theorem dX11_shelf_80 : decode cX11_shelf 80 = .ok (.getfield 165, 3) := by decide +kernel
theorem dX11_shelf_83 : decode cX11_shelf 83 = .ok (.iconst 0, 1) := by decide +kernel
theorem dX11_shelf_84 : decode cX11_shelf 84 = .ok (.aload_n 3, 1) := by decide +kernel
theorem dX11_shelf_85 : decode cX11_shelf 85 = .ok (.getfield 162, 3) := by decide +kernel
theorem dX11_shelf_88 : decode cX11_shelf 88 = .ok (.invokevirtual 168, 3) := by decide +kernel
theorem dX11_shelf_91 : decode cX11_shelf 91 = .ok (.ireturn, 1) := by decide +kernel
theorem dX11_shelf_92 : decode cX11_shelf 92 = .ok (.aload_n 0, 1) := by decide +kernel
theorem dX11_shelf_93 : decode cX11_shelf 93 = .ok (.getfield 22, 3) := by decide +kernel
theorem dX11_shelf_96 : decode cX11_shelf 96 = .ok (.getfield 224, 3) := by decide +kernel
theorem dX11_shelf_99 : decode cX11_shelf 99 = .ok (.iload_n 1, 1) := by decide +kernel
theorem dX11_shelf_100 : decode cX11_shelf 100 = .ok (.iaload, 1) := by decide +kernel
theorem dX11_shelf_101 : decode cX11_shelf 101 = .ok (.ireturn, 1) := by decide +kernel
theorem dX11_shelf_102 : decode cX11_shelf 102 = .ok (.aload_n 0, 1) := by decide +kernel
theorem dX11_shelf_103 : decode cX11_shelf 103 = .ok (.getfield 22, 3) := by decide +kernel
theorem dX11_shelf_106 : decode cX11_shelf 106 = .ok (.getfield 227, 3) := by decide +kernel
theorem dX11_shelf_109 : decode cX11_shelf 109 = .ok (.iload_n 1, 1) := by decide +kernel
theorem dX11_shelf_110 : decode cX11_shelf 110 = .ok (.aaload, 1) := by decide +kernel
theorem dX11_shelf_111 : decode cX11_shelf 111 = .ok (.getfield 231, 3) := by decide +kernel
theorem dX11_shelf_114 : decode cX11_shelf 114 = .ok (.ireturn, 1) := by decide +kernel
theorem dX11_shelf_115 : decode cX11_shelf 115 = .ok (.iconst (-1), 1) := by decide +kernel
theorem dX11_shelf_116 : decode cX11_shelf 116 = .ok (.ireturn, 1) := by decide +kernel
theorem eX11_shelf_0 : am_lim call mX11_shelf 0 [some (.ref a), l1, l2, l3] (S) σ = am_lim call mX11_shelf 1 [some (.ref a), l1, l2, l3] (.ref a :: S) σ := r_aload_n dX11_shelf_0 rfl
theorem eX11_shelf_1 (h : g_o σ a 11) : am_lim call mX11_shelf 1 [l0, l1, l2, l3] (.ref a :: S) σ = am_lim call mX11_shelf 4 [l0, l1, l2, l3] (va_rf (g_R σ a 1) :: S) σ := r_getR dX11_shelf_1 f_11_22 rfl h
theorem eX11_shelf_4 : am_lim call mX11_shelf 4 [l0, some (.int x), l2, l3] (S) σ = am_lim call mX11_shelf 5 [l0, some (.int x), l2, l3] (.int x :: S) σ := r_iload_n dX11_shelf_4 rfl
theorem eX11_shelf_5 (h : g_o σ b 5) : am_lim call mX11_shelf 5 [l0, l1, l2, l3] (.int v0 :: .ref b :: []) σ = am_k (call mX5_has [.ref b, .int v0] σ) (fun r σ1 => am_lim call mX11_shelf 8 [l0, l1, l2, l3] (r.toList ++ []) σ1) := r_kV (S1 := [.int v0]) dX11_shelf_5 mt_11_215 rfl h (Nat.le_of_ble_eq_true rfl)
theorem eX11_shelf_8 : am_lim call mX11_shelf 8 [l0, l1, l2, l3] (.int x :: S) σ = if x ≠ 0 then am_lim call mX11_shelf 13 [l0, l1, l2, l3] (S) σ else am_lim call mX11_shelf 11 [l0, l1, l2, l3] (S) σ := r_ifB 13 dX11_shelf_8 (by decide) rfl
theorem eX11_shelf_11 : am_lim call mX11_shelf 11 [l0, l1, l2, l3] (S) σ = am_lim call mX11_shelf 12 [l0, l1, l2, l3] (.int (-1) :: S) σ := r_iconst dX11_shelf_11 (by decide)
theorem eX11_shelf_12 : am_lim call mX11_shelf 12 [l0, l1, l2, l3] ([.int x]) σ = some (some (.int x), σ) := r_retI dX11_shelf_12 rfl
theorem eX11_shelf_13 : am_lim call mX11_shelf 13 [some (.ref a), l1, l2, l3] (S) σ = am_lim call mX11_shelf 14 [some (.ref a), l1, l2, l3] (.ref a :: S) σ := r_aload_n dX11_shelf_13 rfl
theorem eX11_shelf_14 (h : g_o σ a 11) : am_lim call mX11_shelf 14 [l0, l1, l2, l3] (.ref a :: S) σ = am_lim call mX11_shelf 17 [l0, l1, l2, l3] (va_rf (g_R σ a 1) :: S) σ := r_getR dX11_shelf_14 f_11_22 rfl h
theorem eX11_shelf_17 (h : g_o σ a 5) : am_lim call mX11_shelf 17 [l0, l1, l2, l3] (.ref a :: S) σ = am_lim call mX11_shelf 20 [l0, l1, l2, l3] (va_rf (g_R σ a 3) :: S) σ := r_getR dX11_shelf_17 f_11_218 rfl h
theorem eX11_shelf_20 : am_lim call mX11_shelf 20 [l0, some (.int x), l2, l3] (S) σ = am_lim call mX11_shelf 21 [l0, some (.int x), l2, l3] (.int x :: S) σ := r_iload_n dX11_shelf_20 rfl
theorem eX11_shelf_21 {n : Nat} (h : g_q σ a n) (hi : am_in x n) : am_lim call mX11_shelf 21 [l0, l1, l2, l3] (.int x :: .ref a :: S) σ = am_lim call mX11_shelf 22 [l0, l1, l2, l3] (va_rf (g_R σ a x.toNatClampNeg) :: S) σ := r_aald dX11_shelf_21 h hi
theorem eX11_shelf_22 : am_lim call mX11_shelf 22 [l0, l1, l2, l3] (.ref a :: S) σ = am_lim call mX11_shelf 23 [l0, l1, l2, some (.ref a)] (S) σ := r_astore_n dX11_shelf_22 rfl rfl rfl rfl
theorem eX11_shelf_23 : am_lim call mX11_shelf 23 [l0, l1, some (.int x), l3] (S) σ = am_lim call mX11_shelf 24 [l0, l1, some (.int x), l3] (.int x :: S) σ := r_iload_n dX11_shelf_23 rfl
theorem eX11_shelf_24_0 : am_lim call mX11_shelf 24 [l0, l1, l2, l3] (.int 0 :: S) σ = am_lim call mX11_shelf 60 [l0, l1, l2, l3] (S) σ := r_tsK (off := 36) 60 dX11_shelf_24 (by decide) (by decide) (by decide)
theorem eX11_shelf_24_1 : am_lim call mX11_shelf 24 [l0, l1, l2, l3] (.int 1 :: S) σ = am_lim call mX11_shelf 70 [l0, l1, l2, l3] (S) σ := r_tsK (off := 46) 70 dX11_shelf_24 (by decide) (by decide) (by decide)
theorem eX11_shelf_24_2 : am_lim call mX11_shelf 24 [l0, l1, l2, l3] (.int 2 :: S) σ = am_lim call mX11_shelf 75 [l0, l1, l2, l3] (S) σ := r_tsK (off := 51) 75 dX11_shelf_24 (by decide) (by decide) (by decide)
theorem eX11_shelf_24_3 : am_lim call mX11_shelf 24 [l0, l1, l2, l3] (.int 3 :: S) σ = am_lim call mX11_shelf 92 [l0, l1, l2, l3] (S) σ := r_tsK (off := 68) 92 dX11_shelf_24 (by decide) (by decide) (by decide)
theorem eX11_shelf_24_4 : am_lim call mX11_shelf 24 [l0, l1, l2, l3] (.int 4 :: S) σ = am_lim call mX11_shelf 102 [l0, l1, l2, l3] (S) σ := r_tsK (off := 78) 102 dX11_shelf_24 (by decide) (by decide) (by decide)
theorem eX11_shelf_24_d (h : x.toInt < 0 ∨ 4 < x.toInt) : am_lim call mX11_shelf 24 [l0, l1, l2, l3] (.int x :: S) σ = am_lim call mX11_shelf 115 [l0, l1, l2, l3] (S) σ := r_tsD 115 dX11_shelf_24 h (by decide)
theorem eX11_shelf_115 : am_lim call mX11_shelf 115 [l0, l1, l2, l3] (S) σ = am_lim call mX11_shelf 116 [l0, l1, l2, l3] (.int (-1) :: S) σ := r_iconst dX11_shelf_115 (by decide)
theorem eX11_shelf_116 : am_lim call mX11_shelf 116 [l0, l1, l2, l3] ([.int x]) σ = some (some (.int x), σ) := r_retI dX11_shelf_116 rfl
theorem eX11_shelf_102 : am_lim call mX11_shelf 102 [some (.ref a), l1, l2, l3] (S) σ = am_lim call mX11_shelf 103 [some (.ref a), l1, l2, l3] (.ref a :: S) σ := r_aload_n dX11_shelf_102 rfl
theorem eX11_shelf_103 (h : g_o σ a 11) : am_lim call mX11_shelf 103 [l0, l1, l2, l3] (.ref a :: S) σ = am_lim call mX11_shelf 106 [l0, l1, l2, l3] (va_rf (g_R σ a 1) :: S) σ := r_getR dX11_shelf_103 f_11_22 rfl h
theorem eX11_shelf_106 (h : g_o σ a 5) : am_lim call mX11_shelf 106 [l0, l1, l2, l3] (.ref a :: S) σ = am_lim call mX11_shelf 109 [l0, l1, l2, l3] (va_rf (g_R σ a 4) :: S) σ := r_getR dX11_shelf_106 f_11_227 rfl h
theorem eX11_shelf_109 : am_lim call mX11_shelf 109 [l0, some (.int x), l2, l3] (S) σ = am_lim call mX11_shelf 110 [l0, some (.int x), l2, l3] (.int x :: S) σ := r_iload_n dX11_shelf_109 rfl
theorem eX11_shelf_110 {n : Nat} (h : g_q σ a n) (hi : am_in x n) : am_lim call mX11_shelf 110 [l0, l1, l2, l3] (.int x :: .ref a :: S) σ = am_lim call mX11_shelf 111 [l0, l1, l2, l3] (va_rf (g_R σ a x.toNatClampNeg) :: S) σ := r_aald dX11_shelf_110 h hi
theorem eX11_shelf_111 (h : g_o σ a 7) : am_lim call mX11_shelf 111 [l0, l1, l2, l3] (.ref a :: S) σ = am_lim call mX11_shelf 114 [l0, l1, l2, l3] (.int (g_I σ a 0) :: S) σ := r_getI dX11_shelf_111 f_11_231 rfl h
theorem eX11_shelf_114 : am_lim call mX11_shelf 114 [l0, l1, l2, l3] ([.int x]) σ = some (some (.int x), σ) := r_retI dX11_shelf_114 rfl
theorem eX11_shelf_92 : am_lim call mX11_shelf 92 [some (.ref a), l1, l2, l3] (S) σ = am_lim call mX11_shelf 93 [some (.ref a), l1, l2, l3] (.ref a :: S) σ := r_aload_n dX11_shelf_92 rfl
theorem eX11_shelf_93 (h : g_o σ a 11) : am_lim call mX11_shelf 93 [l0, l1, l2, l3] (.ref a :: S) σ = am_lim call mX11_shelf 96 [l0, l1, l2, l3] (va_rf (g_R σ a 1) :: S) σ := r_getR dX11_shelf_93 f_11_22 rfl h
theorem eX11_shelf_96 (h : g_o σ a 5) : am_lim call mX11_shelf 96 [l0, l1, l2, l3] (.ref a :: S) σ = am_lim call mX11_shelf 99 [l0, l1, l2, l3] (va_rf (g_R σ a 2) :: S) σ := r_getR dX11_shelf_96 f_11_224 rfl h
theorem eX11_shelf_99 : am_lim call mX11_shelf 99 [l0, some (.int x), l2, l3] (S) σ = am_lim call mX11_shelf 100 [l0, some (.int x), l2, l3] (.int x :: S) σ := r_iload_n dX11_shelf_99 rfl
theorem eX11_shelf_100 {n : Nat} (h : g_a σ a n) (hi : am_in x n) : am_lim call mX11_shelf 100 [l0, l1, l2, l3] (.int x :: .ref a :: S) σ = am_lim call mX11_shelf 101 [l0, l1, l2, l3] (.int (g_I σ a x.toNatClampNeg) :: S) σ := r_iald dX11_shelf_100 h hi
theorem eX11_shelf_101 : am_lim call mX11_shelf 101 [l0, l1, l2, l3] ([.int x]) σ = some (some (.int x), σ) := r_retI dX11_shelf_101 rfl
theorem eX11_shelf_75 : am_lim call mX11_shelf 75 [some (.ref a), l1, l2, l3] (S) σ = am_lim call mX11_shelf 76 [some (.ref a), l1, l2, l3] (.ref a :: S) σ := r_aload_n dX11_shelf_75 rfl
theorem eX11_shelf_76 (h : g_o σ a 11) : am_lim call mX11_shelf 76 [l0, l1, l2, l3] (.ref a :: S) σ = am_lim call mX11_shelf 79 [l0, l1, l2, l3] (va_rf (g_R σ a 4) :: S) σ := r_getR dX11_shelf_76 f_11_66 rfl h
theorem eX11_shelf_79 : am_lim call mX11_shelf 79 [l0, l1, l2, some (.ref a)] (S) σ = am_lim call mX11_shelf 80 [l0, l1, l2, some (.ref a)] (.ref a :: S) σ := r_aload_n dX11_shelf_79 rfl
theorem eX11_shelf_80 (h : g_o σ a 4) : am_lim call mX11_shelf 80 [l0, l1, l2, l3] (.ref a :: S) σ = am_lim call mX11_shelf 83 [l0, l1, l2, l3] (va_rf (g_R σ a 0) :: S) σ := r_getR dX11_shelf_80 f_11_165 rfl h
theorem eX11_shelf_83 : am_lim call mX11_shelf 83 [l0, l1, l2, l3] (S) σ = am_lim call mX11_shelf 84 [l0, l1, l2, l3] (.int 0 :: S) σ := r_iconst dX11_shelf_83 (by decide)
theorem eX11_shelf_84 : am_lim call mX11_shelf 84 [l0, l1, l2, some (.ref a)] (S) σ = am_lim call mX11_shelf 85 [l0, l1, l2, some (.ref a)] (.ref a :: S) σ := r_aload_n dX11_shelf_84 rfl
theorem eX11_shelf_85 (h : g_o σ a 4) : am_lim call mX11_shelf 85 [l0, l1, l2, l3] (.ref a :: S) σ = am_lim call mX11_shelf 88 [l0, l1, l2, l3] (.int (g_I σ a 1) :: S) σ := r_getI dX11_shelf_85 f_11_162 rfl h
theorem eX11_shelf_88 (h : g_o σ b 6) : am_lim call mX11_shelf 88 [l0, l1, l2, l3] (.int v2 :: .int v1 :: .ref p0 :: .ref b :: []) σ = am_k (call mX6_rank [.ref b, .ref p0, .int v1, .int v2] σ) (fun r σ1 => am_lim call mX11_shelf 91 [l0, l1, l2, l3] (r.toList ++ []) σ1) := r_kV (S1 := [.int v2, .int v1, .ref p0]) dX11_shelf_88 mt_11_168 rfl h (Nat.le_of_ble_eq_true rfl)
theorem eX11_shelf_91 : am_lim call mX11_shelf 91 [l0, l1, l2, l3] ([.int x]) σ = some (some (.int x), σ) := r_retI dX11_shelf_91 rfl
theorem eX11_shelf_70 : am_lim call mX11_shelf 70 [l0, l1, l2, some (.ref a)] (S) σ = am_lim call mX11_shelf 71 [l0, l1, l2, some (.ref a)] (.ref a :: S) σ := r_aload_n dX11_shelf_70 rfl
theorem eX11_shelf_71 (h : g_o σ a 4) : am_lim call mX11_shelf 71 [l0, l1, l2, l3] (.ref a :: S) σ = am_lim call mX11_shelf 74 [l0, l1, l2, l3] (.int (g_I σ a 1) :: S) σ := r_getI dX11_shelf_71 f_11_162 rfl h
theorem eX11_shelf_74 : am_lim call mX11_shelf 74 [l0, l1, l2, l3] ([.int x]) σ = some (some (.int x), σ) := r_retI dX11_shelf_74 rfl
theorem eX11_shelf_60 : am_lim call mX11_shelf 60 [some (.ref a), l1, l2, l3] (S) σ = am_lim call mX11_shelf 61 [some (.ref a), l1, l2, l3] (.ref a :: S) σ := r_aload_n dX11_shelf_60 rfl
theorem eX11_shelf_61 (h : g_o σ a 11) : am_lim call mX11_shelf 61 [l0, l1, l2, l3] (.ref a :: S) σ = am_lim call mX11_shelf 64 [l0, l1, l2, l3] (va_rf (g_R σ a 1) :: S) σ := r_getR dX11_shelf_61 f_11_22 rfl h
theorem eX11_shelf_64 (h : g_o σ a 5) : am_lim call mX11_shelf 64 [l0, l1, l2, l3] (.ref a :: S) σ = am_lim call mX11_shelf 67 [l0, l1, l2, l3] (va_rf (g_R σ a 1) :: S) σ := r_getR dX11_shelf_64 f_11_221 rfl h
theorem eX11_shelf_67 : am_lim call mX11_shelf 67 [l0, some (.int x), l2, l3] (S) σ = am_lim call mX11_shelf 68 [l0, some (.int x), l2, l3] (.int x :: S) σ := r_iload_n dX11_shelf_67 rfl
theorem eX11_shelf_68 {n : Nat} (h : g_a σ a n) (hi : am_in x n) : am_lim call mX11_shelf 68 [l0, l1, l2, l3] (.int x :: .ref a :: S) σ = am_lim call mX11_shelf 69 [l0, l1, l2, l3] (.int (g_I σ a x.toNatClampNeg) :: S) σ := r_iald dX11_shelf_68 h hi
theorem eX11_shelf_69 : am_lim call mX11_shelf 69 [l0, l1, l2, l3] ([.int x]) σ = some (some (.int x), σ) := r_retI dX11_shelf_69 rfl
theorem nX11_shelf {d : Nat} : am_run (d + 1) mX11_shelf [.ref b, .int v0, .int v1] σ = am_lim (am_run d) mX11_shelf 0 [some (.ref b), some (.int v0), some (.int v1), none] [] σ := am_run_S rfl rfl rfl rfl
theorem dX5_has_0 : decode cX5_has 0 = .ok (.iload_n 1, 1) := by decide +kernel
theorem dX5_has_1 : decode cX5_has 1 = .ok (.ifCond .lt 15, 3) := by decide +kernel
theorem dX5_has_4 : decode cX5_has 4 = .ok (.iload_n 1, 1) := by decide +kernel
theorem dX5_has_5 : decode cX5_has 5 = .ok (.aload_n 0, 1) := by decide +kernel
theorem dX5_has_6 : decode cX5_has 6 = .ok (.getfield 36, 3) := by decide +kernel
theorem dX5_has_9 : decode cX5_has 9 = .ok (.if_icmp .ge 7, 3) := by decide +kernel
theorem dX5_has_12 : decode cX5_has 12 = .ok (.iconst 1, 1) := by decide +kernel
theorem dX5_has_13 : decode cX5_has 13 = .ok (.goto 4, 3) := by decide +kernel
theorem dX5_has_16 : decode cX5_has 16 = .ok (.iconst 0, 1) := by decide +kernel
theorem dX5_has_17 : decode cX5_has 17 = .ok (.ireturn, 1) := by decide +kernel
theorem eX5_has_0 : am_lim call mX5_has 0 [l0, some (.int x)] (S) σ = am_lim call mX5_has 1 [l0, some (.int x)] (.int x :: S) σ := r_iload_n dX5_has_0 rfl
theorem eX5_has_1 : am_lim call mX5_has 1 [l0, l1] (.int x :: S) σ = if x < 0 then am_lim call mX5_has 16 [l0, l1] (S) σ else am_lim call mX5_has 4 [l0, l1] (S) σ := r_ifB 16 dX5_has_1 (by decide) rfl
theorem eX5_has_4 : am_lim call mX5_has 4 [l0, some (.int x)] (S) σ = am_lim call mX5_has 5 [l0, some (.int x)] (.int x :: S) σ := r_iload_n dX5_has_4 rfl
theorem eX5_has_5 : am_lim call mX5_has 5 [some (.ref a), l1] (S) σ = am_lim call mX5_has 6 [some (.ref a), l1] (.ref a :: S) σ := r_aload_n dX5_has_5 rfl
theorem eX5_has_6 (h : g_o σ a 5) : am_lim call mX5_has 6 [l0, l1] (.ref a :: S) σ = am_lim call mX5_has 9 [l0, l1] (.int (g_I σ a 0) :: S) σ := r_getI dX5_has_6 f_5_36 rfl h
theorem eX5_has_9 : am_lim call mX5_has 9 [l0, l1] (.int y :: .int x :: S) σ = if y ≤ x then am_lim call mX5_has 16 [l0, l1] (S) σ else am_lim call mX5_has 12 [l0, l1] (S) σ := r_icmpB 16 dX5_has_9 (by decide) rfl
theorem eX5_has_12 : am_lim call mX5_has 12 [l0, l1] (S) σ = am_lim call mX5_has 13 [l0, l1] (.int 1 :: S) σ := r_iconst dX5_has_12 (by decide)
theorem eX5_has_13 : am_lim call mX5_has 13 [l0, l1] (S) σ = am_lim call mX5_has 17 [l0, l1] (S) σ := r_goto 17 dX5_has_13 (by decide)
theorem eX5_has_17 (hx : x = 0 ∨ x = 1) : am_lim call mX5_has 17 [l0, l1] ([.int x]) σ = some (some (.int x), σ) := r_retZ dX5_has_17 rfl hx
theorem eX5_has_16 : am_lim call mX5_has 16 [l0, l1] (S) σ = am_lim call mX5_has 17 [l0, l1] (.int 0 :: S) σ := r_iconst dX5_has_16 (by decide)
theorem nX5_has {d : Nat} : am_run (d + 1) mX5_has [.ref b, .int v0] σ = am_lim (am_run d) mX5_has 0 [some (.ref b), some (.int v0)] [] σ := am_run_S rfl rfl rfl rfl
theorem dX12_shelf_0 : decode cX12_shelf 0 = .ok (.aload_n 0, 1) := by decide +kernel
theorem dX12_shelf_1 : decode cX12_shelf 1 = .ok (.iconst 0, 1) := by decide +kernel
theorem dX12_shelf_2 : decode cX12_shelf 2 = .ok (.putfield 113, 3) := by decide +kernel
theorem dX12_shelf_5 : decode cX12_shelf 5 = .ok (.iload_n 1, 1) := by decide +kernel
theorem dX12_shelf_6 : decode cX12_shelf 6 = .ok (.i2l, 1) := by decide +kernel
theorem dX12_shelf_7 : decode cX12_shelf 7 = .ok (.lconst 0, 1) := by decide +kernel
theorem dX12_shelf_8 : decode cX12_shelf 8 = .ok (.aload_n 0, 1) := by decide +kernel
theorem dX12_shelf_9 : decode cX12_shelf 9 = .ok (.getfield 414, 3) := by decide +kernel
theorem dX12_shelf_12 : decode cX12_shelf 12 = .ok (.iconst 1, 1) := by decide +kernel
theorem dX12_shelf_13 : decode cX12_shelf 13 = .ok (.isub, 1) := by decide +kernel
theorem dX12_shelf_14 : decode cX12_shelf 14 = .ok (.i2l, 1) := by decide +kernel
theorem dX12_shelf_15 : decode cX12_shelf 15 = .ok (.invokestatic 199, 3) := by decide +kernel
theorem dX12_shelf_18 : decode cX12_shelf 18 = .ok (.ifCond .ne 5, 3) := by decide +kernel
theorem dX12_shelf_21 : decode cX12_shelf 21 = .ok (.iconst (-1), 1) := by decide +kernel
theorem dX12_shelf_22 : decode cX12_shelf 22 = .ok (.ireturn, 1) := by decide +kernel
theorem dX12_shelf_23 : decode cX12_shelf 23 = .ok (.iload_n 2, 1) := by decide +kernel
theorem dX12_shelf_24 : decode cX12_shelf 24 = .ok (.tableswitch 67 0 4 #[36, 43, 43, 53, 60], 36) := by decide +kernel
theorem dX12_shelf_60 : decode cX12_shelf 60 = .ok (.aload_n 0, 1) := by decide +kernel
theorem dX12_shelf_61 : decode cX12_shelf 61 = .ok (.getfield 58, 3) := by decide +kernel
theorem dX12_shelf_64 : decode cX12_shelf 64 = .ok (.iload_n 1, 1) := by decide +kernel
theorem dX12_shelf_65 : decode cX12_shelf 65 = .ok (.iaload, 1) := by decide +kernel
theorem dX12_shelf_66 : decode cX12_shelf 66 = .ok (.ireturn, 1) := by decide +kernel
theorem dX12_shelf_67 : decode cX12_shelf 67 = .ok (.aload_n 0, 1) := by decide +kernel
theorem dX12_shelf_68 : decode cX12_shelf 68 = .ok (.iload_n 1, 1) := by decide +kernel
theorem dX12_shelf_69 : decode cX12_shelf 69 = .ok (.invokestatic 417, 3) := by decide +kernel
theorem dX12_shelf_72 : decode cX12_shelf 72 = .ok (.iload_n 2, 1) := by decide +kernel
theorem dX12_shelf_73 : decode cX12_shelf 73 = .ok (.invokevirtual 509, 3) := by decide +kernel
theorem dX12_shelf_76 : decode cX12_shelf 76 = .ok (.ireturn, 1) := by decide +kernel
theorem dX12_shelf_77 : decode cX12_shelf 77 = .ok (.aload_n 0, 1) := by decide +kernel
theorem dX12_shelf_78 : decode cX12_shelf 78 = .ok (.getfield 61, 3) := by decide +kernel
theorem dX12_shelf_81 : decode cX12_shelf 81 = .ok (.iload_n 1, 1) := by decide +kernel
theorem dX12_shelf_82 : decode cX12_shelf 82 = .ok (.iaload, 1) := by decide +kernel
theorem dX12_shelf_83 : decode cX12_shelf 83 = .ok (.ireturn, 1) := by decide +kernel
theorem dX12_shelf_84 : decode cX12_shelf 84 = .ok (.aload_n 0, 1) := by decide +kernel
theorem dX12_shelf_85 : decode cX12_shelf 85 = .ok (.getfield 64, 3) := by decide +kernel
theorem dX12_shelf_88 : decode cX12_shelf 88 = .ok (.iload_n 1, 1) := by decide +kernel
theorem dX12_shelf_89 : decode cX12_shelf 89 = .ok (.iaload, 1) := by decide +kernel
theorem dX12_shelf_90 : decode cX12_shelf 90 = .ok (.ireturn, 1) := by decide +kernel
theorem dX12_shelf_91 : decode cX12_shelf 91 = .ok (.iconst (-1), 1) := by decide +kernel
theorem dX12_shelf_92 : decode cX12_shelf 92 = .ok (.ireturn, 1) := by decide +kernel
theorem eX12_shelf_0 : am_lim call mX12_shelf 0 [some (.ref a), l1, l2] (S) σ = am_lim call mX12_shelf 1 [some (.ref a), l1, l2] (.ref a :: S) σ := r_aload_n dX12_shelf_0 rfl
theorem eX12_shelf_1 : am_lim call mX12_shelf 1 [l0, l1, l2] (S) σ = am_lim call mX12_shelf 2 [l0, l1, l2] (.int 0 :: S) σ := r_iconst dX12_shelf_1 (by decide)
theorem eX12_shelf_2 (h : g_o σ a 12) : am_lim call mX12_shelf 2 [l0, l1, l2] (.int x :: .ref a :: S) σ = am_lim call mX12_shelf 5 [l0, l1, l2] (S) (am_sI σ a 0 x) := r_putI dX12_shelf_2 f_12_113 rfl rfl h
theorem eX12_shelf_5 : am_lim call mX12_shelf 5 [l0, some (.int x), l2] (S) σ = am_lim call mX12_shelf 6 [l0, some (.int x), l2] (.int x :: S) σ := r_iload_n dX12_shelf_5 rfl
theorem eX12_shelf_6 : am_lim call mX12_shelf 6 [l0, l1, l2] (.int x :: S) σ = am_lim call mX12_shelf 7 [l0, l1, l2] (.long x.toInt64 :: S) σ := r_i2l dX12_shelf_6
theorem eX12_shelf_7 : am_lim call mX12_shelf 7 [l0, l1, l2] (S) σ = am_lim call mX12_shelf 8 [l0, l1, l2] (.long 0 :: S) σ := r_lconst dX12_shelf_7 (by decide)
theorem eX12_shelf_8 : am_lim call mX12_shelf 8 [some (.ref a), l1, l2] (S) σ = am_lim call mX12_shelf 9 [some (.ref a), l1, l2] (.ref a :: S) σ := r_aload_n dX12_shelf_8 rfl
theorem eX12_shelf_9 (h : g_o σ a 12) : am_lim call mX12_shelf 9 [l0, l1, l2] (.ref a :: S) σ = am_lim call mX12_shelf 12 [l0, l1, l2] (.int (g_I σ a 43) :: S) σ := r_getI dX12_shelf_9 f_12_414 rfl h
theorem eX12_shelf_12 : am_lim call mX12_shelf 12 [l0, l1, l2] (S) σ = am_lim call mX12_shelf 13 [l0, l1, l2] (.int 1 :: S) σ := r_iconst dX12_shelf_12 (by decide)
theorem eX12_shelf_13 : am_lim call mX12_shelf 13 [l0, l1, l2] (.int y :: .int x :: S) σ = am_lim call mX12_shelf 14 [l0, l1, l2] (.int (x - y) :: S) σ := r_isub dX12_shelf_13
theorem eX12_shelf_14 : am_lim call mX12_shelf 14 [l0, l1, l2] (.int x :: S) σ = am_lim call mX12_shelf 15 [l0, l1, l2] (.long x.toInt64 :: S) σ := r_i2l dX12_shelf_14
theorem eX12_shelf_15 : am_lim call mX12_shelf 15 [l0, l1, l2] (.long w2 :: .long w1 :: .long w0 :: []) σ = am_k (call mX12_isIn [.long w0, .long w1, .long w2] σ) (fun r σ1 => am_lim call mX12_shelf 18 [l0, l1, l2] (r.toList ++ []) σ1) := r_kS (S1 := [.long w2, .long w1, .long w0]) dX12_shelf_15 ⟨rfl, rfl, rfl⟩ mt_12_199 rfl (Nat.le_of_ble_eq_true rfl)
theorem eX12_shelf_18 : am_lim call mX12_shelf 18 [l0, l1, l2] (.int x :: S) σ = if x ≠ 0 then am_lim call mX12_shelf 23 [l0, l1, l2] (S) σ else am_lim call mX12_shelf 21 [l0, l1, l2] (S) σ := r_ifB 23 dX12_shelf_18 (by decide) rfl
theorem eX12_shelf_21 : am_lim call mX12_shelf 21 [l0, l1, l2] (S) σ = am_lim call mX12_shelf 22 [l0, l1, l2] (.int (-1) :: S) σ := r_iconst dX12_shelf_21 (by decide)
theorem eX12_shelf_22 : am_lim call mX12_shelf 22 [l0, l1, l2] ([.int x]) σ = some (some (.int x), σ) := r_retI dX12_shelf_22 rfl
theorem eX12_shelf_23 : am_lim call mX12_shelf 23 [l0, l1, some (.int x)] (S) σ = am_lim call mX12_shelf 24 [l0, l1, some (.int x)] (.int x :: S) σ := r_iload_n dX12_shelf_23 rfl
theorem eX12_shelf_24_0 : am_lim call mX12_shelf 24 [l0, l1, l2] (.int 0 :: S) σ = am_lim call mX12_shelf 60 [l0, l1, l2] (S) σ := r_tsK (off := 36) 60 dX12_shelf_24 (by decide) (by decide) (by decide)
theorem eX12_shelf_24_1 : am_lim call mX12_shelf 24 [l0, l1, l2] (.int 1 :: S) σ = am_lim call mX12_shelf 67 [l0, l1, l2] (S) σ := r_tsK (off := 43) 67 dX12_shelf_24 (by decide) (by decide) (by decide)
theorem eX12_shelf_24_2 : am_lim call mX12_shelf 24 [l0, l1, l2] (.int 2 :: S) σ = am_lim call mX12_shelf 67 [l0, l1, l2] (S) σ := r_tsK (off := 43) 67 dX12_shelf_24 (by decide) (by decide) (by decide)
theorem eX12_shelf_24_3 : am_lim call mX12_shelf 24 [l0, l1, l2] (.int 3 :: S) σ = am_lim call mX12_shelf 77 [l0, l1, l2] (S) σ := r_tsK (off := 53) 77 dX12_shelf_24 (by decide) (by decide) (by decide)
theorem eX12_shelf_24_4 : am_lim call mX12_shelf 24 [l0, l1, l2] (.int 4 :: S) σ = am_lim call mX12_shelf 84 [l0, l1, l2] (S) σ := r_tsK (off := 60) 84 dX12_shelf_24 (by decide) (by decide) (by decide)
theorem eX12_shelf_24_d (h : x.toInt < 0 ∨ 4 < x.toInt) : am_lim call mX12_shelf 24 [l0, l1, l2] (.int x :: S) σ = am_lim call mX12_shelf 91 [l0, l1, l2] (S) σ := r_tsD 91 dX12_shelf_24 h (by decide)
theorem eX12_shelf_91 : am_lim call mX12_shelf 91 [l0, l1, l2] (S) σ = am_lim call mX12_shelf 92 [l0, l1, l2] (.int (-1) :: S) σ := r_iconst dX12_shelf_91 (by decide)
theorem eX12_shelf_92 : am_lim call mX12_shelf 92 [l0, l1, l2] ([.int x]) σ = some (some (.int x), σ) := r_retI dX12_shelf_92 rfl
theorem eX12_shelf_84 : am_lim call mX12_shelf 84 [some (.ref a), l1, l2] (S) σ = am_lim call mX12_shelf 85 [some (.ref a), l1, l2] (.ref a :: S) σ := r_aload_n dX12_shelf_84 rfl
theorem eX12_shelf_85 (h : g_o σ a 12) : am_lim call mX12_shelf 85 [l0, l1, l2] (.ref a :: S) σ = am_lim call mX12_shelf 88 [l0, l1, l2] (va_rf (g_R σ a 47) :: S) σ := r_getR dX12_shelf_85 f_12_64 rfl h
theorem eX12_shelf_88 : am_lim call mX12_shelf 88 [l0, some (.int x), l2] (S) σ = am_lim call mX12_shelf 89 [l0, some (.int x), l2] (.int x :: S) σ := r_iload_n dX12_shelf_88 rfl
theorem eX12_shelf_89 {n : Nat} (h : g_a σ a n) (hi : am_in x n) : am_lim call mX12_shelf 89 [l0, l1, l2] (.int x :: .ref a :: S) σ = am_lim call mX12_shelf 90 [l0, l1, l2] (.int (g_I σ a x.toNatClampNeg) :: S) σ := r_iald dX12_shelf_89 h hi
theorem eX12_shelf_90 : am_lim call mX12_shelf 90 [l0, l1, l2] ([.int x]) σ = some (some (.int x), σ) := r_retI dX12_shelf_90 rfl
theorem eX12_shelf_77 : am_lim call mX12_shelf 77 [some (.ref a), l1, l2] (S) σ = am_lim call mX12_shelf 78 [some (.ref a), l1, l2] (.ref a :: S) σ := r_aload_n dX12_shelf_77 rfl
theorem eX12_shelf_78 (h : g_o σ a 12) : am_lim call mX12_shelf 78 [l0, l1, l2] (.ref a :: S) σ = am_lim call mX12_shelf 81 [l0, l1, l2] (va_rf (g_R σ a 46) :: S) σ := r_getR dX12_shelf_78 f_12_61 rfl h
theorem eX12_shelf_81 : am_lim call mX12_shelf 81 [l0, some (.int x), l2] (S) σ = am_lim call mX12_shelf 82 [l0, some (.int x), l2] (.int x :: S) σ := r_iload_n dX12_shelf_81 rfl
theorem eX12_shelf_82 {n : Nat} (h : g_a σ a n) (hi : am_in x n) : am_lim call mX12_shelf 82 [l0, l1, l2] (.int x :: .ref a :: S) σ = am_lim call mX12_shelf 83 [l0, l1, l2] (.int (g_I σ a x.toNatClampNeg) :: S) σ := r_iald dX12_shelf_82 h hi
theorem eX12_shelf_83 : am_lim call mX12_shelf 83 [l0, l1, l2] ([.int x]) σ = some (some (.int x), σ) := r_retI dX12_shelf_83 rfl
theorem eX12_shelf_67 : am_lim call mX12_shelf 67 [some (.ref a), l1, l2] (S) σ = am_lim call mX12_shelf 68 [some (.ref a), l1, l2] (.ref a :: S) σ := r_aload_n dX12_shelf_67 rfl
theorem eX12_shelf_68 : am_lim call mX12_shelf 68 [l0, some (.int x), l2] (S) σ = am_lim call mX12_shelf 69 [l0, some (.int x), l2] (.int x :: S) σ := r_iload_n dX12_shelf_68 rfl
theorem eX12_shelf_69 : am_lim call mX12_shelf 69 [l0, l1, l2] (.int v0 :: .ref q0 :: []) σ = am_k (call mX12_typeRowOf [.int v0] σ) (fun r σ1 => am_lim call mX12_shelf 72 [l0, l1, l2] (r.toList ++ .ref q0 :: []) σ1) := r_kS (S1 := [.int v0]) dX12_shelf_69 ⟨rfl, rfl, rfl⟩ mt_12_417 rfl (Nat.le_of_ble_eq_true rfl)
theorem eX12_shelf_72 : am_lim call mX12_shelf 72 [l0, l1, some (.int x)] (S) σ = am_lim call mX12_shelf 73 [l0, l1, some (.int x)] (.int x :: S) σ := r_iload_n dX12_shelf_72 rfl
theorem eX12_shelf_73 (h : g_o σ b 12) : am_lim call mX12_shelf 73 [l0, l1, l2] (.int v1 :: .int v0 :: .ref b :: []) σ = am_k (call mX12_tellsOf [.ref b, .int v0, .int v1] σ) (fun r σ1 => am_lim call mX12_shelf 76 [l0, l1, l2] (r.toList ++ []) σ1) := r_kV (S1 := [.int v1, .int v0]) dX12_shelf_73 mt_12_509 rfl h (Nat.le_of_ble_eq_true rfl)
theorem eX12_shelf_76 : am_lim call mX12_shelf 76 [l0, l1, l2] ([.int x]) σ = some (some (.int x), σ) := r_retI dX12_shelf_76 rfl
theorem eX12_shelf_60 : am_lim call mX12_shelf 60 [some (.ref a), l1, l2] (S) σ = am_lim call mX12_shelf 61 [some (.ref a), l1, l2] (.ref a :: S) σ := r_aload_n dX12_shelf_60 rfl
theorem eX12_shelf_61 (h : g_o σ a 12) : am_lim call mX12_shelf 61 [l0, l1, l2] (.ref a :: S) σ = am_lim call mX12_shelf 64 [l0, l1, l2] (va_rf (g_R σ a 45) :: S) σ := r_getR dX12_shelf_61 f_12_58 rfl h
theorem eX12_shelf_64 : am_lim call mX12_shelf 64 [l0, some (.int x), l2] (S) σ = am_lim call mX12_shelf 65 [l0, some (.int x), l2] (.int x :: S) σ := r_iload_n dX12_shelf_64 rfl
theorem eX12_shelf_65 {n : Nat} (h : g_a σ a n) (hi : am_in x n) : am_lim call mX12_shelf 65 [l0, l1, l2] (.int x :: .ref a :: S) σ = am_lim call mX12_shelf 66 [l0, l1, l2] (.int (g_I σ a x.toNatClampNeg) :: S) σ := r_iald dX12_shelf_65 h hi
theorem eX12_shelf_66 : am_lim call mX12_shelf 66 [l0, l1, l2] ([.int x]) σ = some (some (.int x), σ) := r_retI dX12_shelf_66 rfl
theorem nX12_shelf {d : Nat} : am_run (d + 1) mX12_shelf [.ref b, .int v0, .int v1] σ = am_lim (am_run d) mX12_shelf 0 [some (.ref b), some (.int v0), some (.int v1)] [] σ := am_run_S rfl rfl rfl rfl
theorem dX11_shelfType_0 : decode cX11_shelfType 0 = .ok (.aload_n 0, 1) := by decide +kernel
theorem dX11_shelfType_1 : decode cX11_shelfType 1 = .ok (.getfield 22, 3) := by decide +kernel
theorem dX11_shelfType_4 : decode cX11_shelfType 4 = .ok (.iload_n 1, 1) := by decide +kernel
theorem dX11_shelfType_5 : decode cX11_shelfType 5 = .ok (.invokevirtual 215, 3) := by decide +kernel
theorem dX11_shelfType_8 : decode cX11_shelfType 8 = .ok (.ifCond .ne 5, 3) := by decide +kernel
theorem dX11_shelfType_11 : decode cX11_shelfType 11 = .ok (.iconst (-1), 1) := by decide +kernel
theorem dX11_shelfType_12 : decode cX11_shelfType 12 = .ok (.ireturn, 1) := by decide +kernel
theorem dX11_shelfType_13 : decode cX11_shelfType 13 = .ok (.aload_n 0, 1) := by decide +kernel
theorem dX11_shelfType_14 : decode cX11_shelfType 14 = .ok (.getfield 22, 3) := by decide +kernel
theorem dX11_shelfType_17 : decode cX11_shelfType 17 = .ok (.getfield 218, 3) := by decide +kernel
theorem dX11_shelfType_20 : decode cX11_shelfType 20 = .ok (.iload_n 1, 1) := by decide +kernel
theorem dX11_shelfType_21 : decode cX11_shelfType 21 = .ok (.aaload, 1) := by decide +kernel
theorem dX11_shelfType_22 : decode cX11_shelfType 22 = .ok (.astore_n 3, 1) := by decide +kernel
theorem dX11_shelfType_23 : decode cX11_shelfType 23 = .ok (.aload_n 0, 1) := by decide +kernel
theorem dX11_shelfType_24 : decode cX11_shelfType 24 = .ok (.getfield 66, 3) := by decide +kernel
theorem dX11_shelfType_27 : decode cX11_shelfType 27 = .ok (.aload_n 3, 1) := by decide +kernel
theorem dX11_shelfType_28 : decode cX11_shelfType 28 = .ok (.getfield 165, 3) := by decide +kernel
theorem dX11_shelfType_31 : decode cX11_shelfType 31 = .ok (.iconst 0, 1) := by decide +kernel
theorem dX11_shelfType_32 : decode cX11_shelfType 32 = .ok (.aload_n 3, 1) := by decide +kernel
theorem dX11_shelfType_33 : decode cX11_shelfType 33 = .ok (.getfield 162, 3) := by decide +kernel
theorem dX11_shelfType_36 : decode cX11_shelfType 36 = .ok (.iload_n 2, 1) := by decide +kernel
theorem dX11_shelfType_37 : decode cX11_shelfType 37 = .ok (.invokevirtual 172, 3) := by decide +kernel
theorem dX11_shelfType_40 : decode cX11_shelfType 40 = .ok (.ireturn, 1) := by decide +kernel
theorem eX11_shelfType_0 : am_lim call mX11_shelfType 0 [some (.ref a), l1, l2, l3] (S) σ = am_lim call mX11_shelfType 1 [some (.ref a), l1, l2, l3] (.ref a :: S) σ := r_aload_n dX11_shelfType_0 rfl
theorem eX11_shelfType_1 (h : g_o σ a 11) : am_lim call mX11_shelfType 1 [l0, l1, l2, l3] (.ref a :: S) σ = am_lim call mX11_shelfType 4 [l0, l1, l2, l3] (va_rf (g_R σ a 1) :: S) σ := r_getR dX11_shelfType_1 f_11_22 rfl h
theorem eX11_shelfType_4 : am_lim call mX11_shelfType 4 [l0, some (.int x), l2, l3] (S) σ = am_lim call mX11_shelfType 5 [l0, some (.int x), l2, l3] (.int x :: S) σ := r_iload_n dX11_shelfType_4 rfl
theorem eX11_shelfType_5 (h : g_o σ b 5) : am_lim call mX11_shelfType 5 [l0, l1, l2, l3] (.int v0 :: .ref b :: []) σ = am_k (call mX5_has [.ref b, .int v0] σ) (fun r σ1 => am_lim call mX11_shelfType 8 [l0, l1, l2, l3] (r.toList ++ []) σ1) := r_kV (S1 := [.int v0]) dX11_shelfType_5 mt_11_215 rfl h (Nat.le_of_ble_eq_true rfl)
theorem eX11_shelfType_8 : am_lim call mX11_shelfType 8 [l0, l1, l2, l3] (.int x :: S) σ = if x ≠ 0 then am_lim call mX11_shelfType 13 [l0, l1, l2, l3] (S) σ else am_lim call mX11_shelfType 11 [l0, l1, l2, l3] (S) σ := r_ifB 13 dX11_shelfType_8 (by decide) rfl
theorem eX11_shelfType_11 : am_lim call mX11_shelfType 11 [l0, l1, l2, l3] (S) σ = am_lim call mX11_shelfType 12 [l0, l1, l2, l3] (.int (-1) :: S) σ := r_iconst dX11_shelfType_11 (by decide)
theorem eX11_shelfType_12 : am_lim call mX11_shelfType 12 [l0, l1, l2, l3] ([.int x]) σ = some (some (.int x), σ) := r_retI dX11_shelfType_12 rfl
theorem eX11_shelfType_13 : am_lim call mX11_shelfType 13 [some (.ref a), l1, l2, l3] (S) σ = am_lim call mX11_shelfType 14 [some (.ref a), l1, l2, l3] (.ref a :: S) σ := r_aload_n dX11_shelfType_13 rfl
theorem eX11_shelfType_14 (h : g_o σ a 11) : am_lim call mX11_shelfType 14 [l0, l1, l2, l3] (.ref a :: S) σ = am_lim call mX11_shelfType 17 [l0, l1, l2, l3] (va_rf (g_R σ a 1) :: S) σ := r_getR dX11_shelfType_14 f_11_22 rfl h
theorem eX11_shelfType_17 (h : g_o σ a 5) : am_lim call mX11_shelfType 17 [l0, l1, l2, l3] (.ref a :: S) σ = am_lim call mX11_shelfType 20 [l0, l1, l2, l3] (va_rf (g_R σ a 3) :: S) σ := r_getR dX11_shelfType_17 f_11_218 rfl h
theorem eX11_shelfType_20 : am_lim call mX11_shelfType 20 [l0, some (.int x), l2, l3] (S) σ = am_lim call mX11_shelfType 21 [l0, some (.int x), l2, l3] (.int x :: S) σ := r_iload_n dX11_shelfType_20 rfl
theorem eX11_shelfType_21 {n : Nat} (h : g_q σ a n) (hi : am_in x n) : am_lim call mX11_shelfType 21 [l0, l1, l2, l3] (.int x :: .ref a :: S) σ = am_lim call mX11_shelfType 22 [l0, l1, l2, l3] (va_rf (g_R σ a x.toNatClampNeg) :: S) σ := r_aald dX11_shelfType_21 h hi
theorem eX11_shelfType_22 : am_lim call mX11_shelfType 22 [l0, l1, l2, l3] (.ref a :: S) σ = am_lim call mX11_shelfType 23 [l0, l1, l2, some (.ref a)] (S) σ := r_astore_n dX11_shelfType_22 rfl rfl rfl rfl
theorem eX11_shelfType_23 : am_lim call mX11_shelfType 23 [some (.ref a), l1, l2, l3] (S) σ = am_lim call mX11_shelfType 24 [some (.ref a), l1, l2, l3] (.ref a :: S) σ := r_aload_n dX11_shelfType_23 rfl
theorem eX11_shelfType_24 (h : g_o σ a 11) : am_lim call mX11_shelfType 24 [l0, l1, l2, l3] (.ref a :: S) σ = am_lim call mX11_shelfType 27 [l0, l1, l2, l3] (va_rf (g_R σ a 4) :: S) σ := r_getR dX11_shelfType_24 f_11_66 rfl h
theorem eX11_shelfType_27 : am_lim call mX11_shelfType 27 [l0, l1, l2, some (.ref a)] (S) σ = am_lim call mX11_shelfType 28 [l0, l1, l2, some (.ref a)] (.ref a :: S) σ := r_aload_n dX11_shelfType_27 rfl
theorem eX11_shelfType_28 (h : g_o σ a 4) : am_lim call mX11_shelfType 28 [l0, l1, l2, l3] (.ref a :: S) σ = am_lim call mX11_shelfType 31 [l0, l1, l2, l3] (va_rf (g_R σ a 0) :: S) σ := r_getR dX11_shelfType_28 f_11_165 rfl h
theorem eX11_shelfType_31 : am_lim call mX11_shelfType 31 [l0, l1, l2, l3] (S) σ = am_lim call mX11_shelfType 32 [l0, l1, l2, l3] (.int 0 :: S) σ := r_iconst dX11_shelfType_31 (by decide)
theorem eX11_shelfType_32 : am_lim call mX11_shelfType 32 [l0, l1, l2, some (.ref a)] (S) σ = am_lim call mX11_shelfType 33 [l0, l1, l2, some (.ref a)] (.ref a :: S) σ := r_aload_n dX11_shelfType_32 rfl
theorem eX11_shelfType_33 (h : g_o σ a 4) : am_lim call mX11_shelfType 33 [l0, l1, l2, l3] (.ref a :: S) σ = am_lim call mX11_shelfType 36 [l0, l1, l2, l3] (.int (g_I σ a 1) :: S) σ := r_getI dX11_shelfType_33 f_11_162 rfl h
theorem eX11_shelfType_36 : am_lim call mX11_shelfType 36 [l0, l1, some (.int x), l3] (S) σ = am_lim call mX11_shelfType 37 [l0, l1, some (.int x), l3] (.int x :: S) σ := r_iload_n dX11_shelfType_36 rfl
theorem eX11_shelfType_37 (h : g_o σ b 6) : am_lim call mX11_shelfType 37 [l0, l1, l2, l3] (.int v3 :: .int v2 :: .int v1 :: .ref p0 :: .ref b :: []) σ = am_k (call mX6_told [.ref b, .ref p0, .int v1, .int v2, .int v3] σ) (fun r σ1 => am_lim call mX11_shelfType 40 [l0, l1, l2, l3] (r.toList ++ []) σ1) := r_kV (S1 := [.int v3, .int v2, .int v1, .ref p0]) dX11_shelfType_37 mt_11_172 rfl h (Nat.le_of_ble_eq_true rfl)
theorem eX11_shelfType_40 : am_lim call mX11_shelfType 40 [l0, l1, l2, l3] ([.int x]) σ = some (some (.int x), σ) := r_retI dX11_shelfType_40 rfl
theorem nX11_shelfType {d : Nat} : am_run (d + 1) mX11_shelfType [.ref b, .int v0, .int v1] σ = am_lim (am_run d) mX11_shelfType 0 [some (.ref b), some (.int v0), some (.int v1), none] [] σ := am_run_S rfl rfl rfl rfl
theorem dX12_shelfType_0 : decode cX12_shelfType 0 = .ok (.aload_n 0, 1) := by decide +kernel
theorem dX12_shelfType_1 : decode cX12_shelfType 1 = .ok (.iconst 0, 1) := by decide +kernel
theorem dX12_shelfType_2 : decode cX12_shelfType 2 = .ok (.putfield 113, 3) := by decide +kernel
theorem dX12_shelfType_5 : decode cX12_shelfType 5 = .ok (.iload_n 1, 1) := by decide +kernel
theorem dX12_shelfType_6 : decode cX12_shelfType 6 = .ok (.i2l, 1) := by decide +kernel
theorem dX12_shelfType_7 : decode cX12_shelfType 7 = .ok (.lconst 0, 1) := by decide +kernel
theorem dX12_shelfType_8 : decode cX12_shelfType 8 = .ok (.aload_n 0, 1) := by decide +kernel
theorem dX12_shelfType_9 : decode cX12_shelfType 9 = .ok (.getfield 414, 3) := by decide +kernel
theorem dX12_shelfType_12 : decode cX12_shelfType 12 = .ok (.iconst 1, 1) := by decide +kernel
theorem dX12_shelfType_13 : decode cX12_shelfType 13 = .ok (.isub, 1) := by decide +kernel
theorem dX12_shelfType_14 : decode cX12_shelfType 14 = .ok (.i2l, 1) := by decide +kernel
theorem dX12_shelfType_15 : decode cX12_shelfType 15 = .ok (.invokestatic 199, 3) := by decide +kernel
theorem dX12_shelfType_18 : decode cX12_shelfType 18 = .ok (.ifCond .ne 5, 3) := by decide +kernel
theorem dX12_shelfType_21 : decode cX12_shelfType 21 = .ok (.iconst (-1), 1) := by decide +kernel
theorem dX12_shelfType_22 : decode cX12_shelfType 22 = .ok (.ireturn, 1) := by decide +kernel
theorem dX12_shelfType_23 : decode cX12_shelfType 23 = .ok (.aload_n 0, 1) := by decide +kernel
theorem dX12_shelfType_24 : decode cX12_shelfType 24 = .ok (.getfield 209, 3) := by decide +kernel
theorem dX12_shelfType_27 : decode cX12_shelfType 27 = .ok (.istore_n 3, 1) := by decide +kernel
theorem dX12_shelfType_28 : decode cX12_shelfType 28 = .ok (.aload_n 0, 1) := by decide +kernel
theorem dX12_shelfType_29 : decode cX12_shelfType 29 = .ok (.getfield 219, 3) := by decide +kernel
theorem dX12_shelfType_32 : decode cX12_shelfType 32 = .ok (.istore 4, 2) := by decide +kernel
theorem dX12_shelfType_34 : decode cX12_shelfType 34 = .ok (.aload_n 0, 1) := by decide +kernel
theorem dX12_shelfType_35 : decode cX12_shelfType 35 = .ok (.aload_n 0, 1) := by decide +kernel
theorem dX12_shelfType_36 : decode cX12_shelfType 36 = .ok (.iload_n 1, 1) := by decide +kernel
theorem dX12_shelfType_37 : decode cX12_shelfType 37 = .ok (.invokestatic 417, 3) := by decide +kernel
theorem dX12_shelfType_40 : decode cX12_shelfType 40 = .ok (.invokevirtual 354, 3) := by decide +kernel
theorem dX12_shelfType_43 : decode cX12_shelfType 43 = .ok (.iload_n 2, 1) := by decide +kernel
theorem dX12_shelfType_44 : decode cX12_shelfType 44 = .ok (.invokevirtual 482, 3) := by decide +kernel
theorem dX12_shelfType_47 : decode cX12_shelfType 47 = .ok (.istore 5, 2) := by decide +kernel
theorem dX12_shelfType_49 : decode cX12_shelfType 49 = .ok (.aload_n 0, 1) := by decide +kernel
theorem dX12_shelfType_50 : decode cX12_shelfType 50 = .ok (.iload_n 3, 1) := by decide +kernel
theorem dX12_shelfType_51 : decode cX12_shelfType 51 = .ok (.putfield 209, 3) := by decide +kernel
theorem dX12_shelfType_54 : decode cX12_shelfType 54 = .ok (.aload_n 0, 1) := by decide +kernel
theorem dX12_shelfType_55 : decode cX12_shelfType 55 = .ok (.iload 4, 2) := by decide +kernel
theorem dX12_shelfType_57 : decode cX12_shelfType 57 = .ok (.putfield 219, 3) := by decide +kernel
theorem dX12_shelfType_60 : decode cX12_shelfType 60 = .ok (.iload 5, 2) := by decide +kernel
theorem dX12_shelfType_62 : decode cX12_shelfType 62 = .ok (.ireturn, 1) := by decide +kernel
theorem eX12_shelfType_0 : am_lim call mX12_shelfType 0 [some (.ref a), l1, l2, l3, l4, l5] (S) σ = am_lim call mX12_shelfType 1 [some (.ref a), l1, l2, l3, l4, l5] (.ref a :: S) σ := r_aload_n dX12_shelfType_0 rfl
theorem eX12_shelfType_1 : am_lim call mX12_shelfType 1 [l0, l1, l2, l3, l4, l5] (S) σ = am_lim call mX12_shelfType 2 [l0, l1, l2, l3, l4, l5] (.int 0 :: S) σ := r_iconst dX12_shelfType_1 (by decide)
theorem eX12_shelfType_2 (h : g_o σ a 12) : am_lim call mX12_shelfType 2 [l0, l1, l2, l3, l4, l5] (.int x :: .ref a :: S) σ = am_lim call mX12_shelfType 5 [l0, l1, l2, l3, l4, l5] (S) (am_sI σ a 0 x) := r_putI dX12_shelfType_2 f_12_113 rfl rfl h
theorem eX12_shelfType_5 : am_lim call mX12_shelfType 5 [l0, some (.int x), l2, l3, l4, l5] (S) σ = am_lim call mX12_shelfType 6 [l0, some (.int x), l2, l3, l4, l5] (.int x :: S) σ := r_iload_n dX12_shelfType_5 rfl
theorem eX12_shelfType_6 : am_lim call mX12_shelfType 6 [l0, l1, l2, l3, l4, l5] (.int x :: S) σ = am_lim call mX12_shelfType 7 [l0, l1, l2, l3, l4, l5] (.long x.toInt64 :: S) σ := r_i2l dX12_shelfType_6
theorem eX12_shelfType_7 : am_lim call mX12_shelfType 7 [l0, l1, l2, l3, l4, l5] (S) σ = am_lim call mX12_shelfType 8 [l0, l1, l2, l3, l4, l5] (.long 0 :: S) σ := r_lconst dX12_shelfType_7 (by decide)
theorem eX12_shelfType_8 : am_lim call mX12_shelfType 8 [some (.ref a), l1, l2, l3, l4, l5] (S) σ = am_lim call mX12_shelfType 9 [some (.ref a), l1, l2, l3, l4, l5] (.ref a :: S) σ := r_aload_n dX12_shelfType_8 rfl
theorem eX12_shelfType_9 (h : g_o σ a 12) : am_lim call mX12_shelfType 9 [l0, l1, l2, l3, l4, l5] (.ref a :: S) σ = am_lim call mX12_shelfType 12 [l0, l1, l2, l3, l4, l5] (.int (g_I σ a 43) :: S) σ := r_getI dX12_shelfType_9 f_12_414 rfl h
theorem eX12_shelfType_12 : am_lim call mX12_shelfType 12 [l0, l1, l2, l3, l4, l5] (S) σ = am_lim call mX12_shelfType 13 [l0, l1, l2, l3, l4, l5] (.int 1 :: S) σ := r_iconst dX12_shelfType_12 (by decide)
theorem eX12_shelfType_13 : am_lim call mX12_shelfType 13 [l0, l1, l2, l3, l4, l5] (.int y :: .int x :: S) σ = am_lim call mX12_shelfType 14 [l0, l1, l2, l3, l4, l5] (.int (x - y) :: S) σ := r_isub dX12_shelfType_13
theorem eX12_shelfType_14 : am_lim call mX12_shelfType 14 [l0, l1, l2, l3, l4, l5] (.int x :: S) σ = am_lim call mX12_shelfType 15 [l0, l1, l2, l3, l4, l5] (.long x.toInt64 :: S) σ := r_i2l dX12_shelfType_14
theorem eX12_shelfType_15 : am_lim call mX12_shelfType 15 [l0, l1, l2, l3, l4, l5] (.long w2 :: .long w1 :: .long w0 :: []) σ = am_k (call mX12_isIn [.long w0, .long w1, .long w2] σ) (fun r σ1 => am_lim call mX12_shelfType 18 [l0, l1, l2, l3, l4, l5] (r.toList ++ []) σ1) := r_kS (S1 := [.long w2, .long w1, .long w0]) dX12_shelfType_15 ⟨rfl, rfl, rfl⟩ mt_12_199 rfl (Nat.le_of_ble_eq_true rfl)
theorem eX12_shelfType_18 : am_lim call mX12_shelfType 18 [l0, l1, l2, l3, l4, l5] (.int x :: S) σ = if x ≠ 0 then am_lim call mX12_shelfType 23 [l0, l1, l2, l3, l4, l5] (S) σ else am_lim call mX12_shelfType 21 [l0, l1, l2, l3, l4, l5] (S) σ := r_ifB 23 dX12_shelfType_18 (by decide) rfl
theorem eX12_shelfType_21 : am_lim call mX12_shelfType 21 [l0, l1, l2, l3, l4, l5] (S) σ = am_lim call mX12_shelfType 22 [l0, l1, l2, l3, l4, l5] (.int (-1) :: S) σ := r_iconst dX12_shelfType_21 (by decide)
theorem eX12_shelfType_22 : am_lim call mX12_shelfType 22 [l0, l1, l2, l3, l4, l5] ([.int x]) σ = some (some (.int x), σ) := r_retI dX12_shelfType_22 rfl
theorem eX12_shelfType_23 : am_lim call mX12_shelfType 23 [some (.ref a), l1, l2, l3, l4, l5] (S) σ = am_lim call mX12_shelfType 24 [some (.ref a), l1, l2, l3, l4, l5] (.ref a :: S) σ := r_aload_n dX12_shelfType_23 rfl
theorem eX12_shelfType_24 (h : g_o σ a 12) : am_lim call mX12_shelfType 24 [l0, l1, l2, l3, l4, l5] (.ref a :: S) σ = am_lim call mX12_shelfType 27 [l0, l1, l2, l3, l4, l5] (.int (g_I σ a 14) :: S) σ := r_getI dX12_shelfType_24 f_12_209 rfl h
theorem eX12_shelfType_27 : am_lim call mX12_shelfType 27 [l0, l1, l2, l3, l4, l5] (.int x :: S) σ = am_lim call mX12_shelfType 28 [l0, l1, l2, some (.int x), l4, l5] (S) σ := r_istore_n dX12_shelfType_27 rfl rfl rfl rfl
theorem eX12_shelfType_28 : am_lim call mX12_shelfType 28 [some (.ref a), l1, l2, l3, l4, l5] (S) σ = am_lim call mX12_shelfType 29 [some (.ref a), l1, l2, l3, l4, l5] (.ref a :: S) σ := r_aload_n dX12_shelfType_28 rfl
theorem eX12_shelfType_29 (h : g_o σ a 12) : am_lim call mX12_shelfType 29 [l0, l1, l2, l3, l4, l5] (.ref a :: S) σ = am_lim call mX12_shelfType 32 [l0, l1, l2, l3, l4, l5] (.int (g_I σ a 15) :: S) σ := r_getI dX12_shelfType_29 f_12_219 rfl h
theorem eX12_shelfType_32 : am_lim call mX12_shelfType 32 [l0, l1, l2, l3, l4, l5] (.int x :: S) σ = am_lim call mX12_shelfType 34 [l0, l1, l2, l3, some (.int x), l5] (S) σ := r_istore dX12_shelfType_32 rfl rfl rfl rfl
theorem eX12_shelfType_34 : am_lim call mX12_shelfType 34 [some (.ref a), l1, l2, l3, l4, l5] (S) σ = am_lim call mX12_shelfType 35 [some (.ref a), l1, l2, l3, l4, l5] (.ref a :: S) σ := r_aload_n dX12_shelfType_34 rfl
theorem eX12_shelfType_35 : am_lim call mX12_shelfType 35 [some (.ref a), l1, l2, l3, l4, l5] (S) σ = am_lim call mX12_shelfType 36 [some (.ref a), l1, l2, l3, l4, l5] (.ref a :: S) σ := r_aload_n dX12_shelfType_35 rfl
theorem eX12_shelfType_36 : am_lim call mX12_shelfType 36 [l0, some (.int x), l2, l3, l4, l5] (S) σ = am_lim call mX12_shelfType 37 [l0, some (.int x), l2, l3, l4, l5] (.int x :: S) σ := r_iload_n dX12_shelfType_36 rfl
theorem eX12_shelfType_37 : am_lim call mX12_shelfType 37 [l0, l1, l2, l3, l4, l5] (.int v0 :: .ref q0 :: .ref q1 :: []) σ = am_k (call mX12_typeRowOf [.int v0] σ) (fun r σ1 => am_lim call mX12_shelfType 40 [l0, l1, l2, l3, l4, l5] (r.toList ++ .ref q0 :: .ref q1 :: []) σ1) := r_kS (S1 := [.int v0]) dX12_shelfType_37 ⟨rfl, rfl, rfl⟩ mt_12_417 rfl (Nat.le_of_ble_eq_true rfl)
theorem eX12_shelfType_40 (h : g_o σ b 12) : am_lim call mX12_shelfType 40 [l0, l1, l2, l3, l4, l5] (.int v0 :: .ref b :: .ref q0 :: []) σ = am_k (call mX12_typeFrom [.ref b, .int v0] σ) (fun r σ1 => am_lim call mX12_shelfType 43 [l0, l1, l2, l3, l4, l5] (r.toList ++ .ref q0 :: []) σ1) := r_kV (S1 := [.int v0]) dX12_shelfType_40 mt_12_354 rfl h (Nat.le_of_ble_eq_true rfl)
theorem eX12_shelfType_43 : am_lim call mX12_shelfType 43 [l0, l1, some (.int x), l3, l4, l5] (S) σ = am_lim call mX12_shelfType 44 [l0, l1, some (.int x), l3, l4, l5] (.int x :: S) σ := r_iload_n dX12_shelfType_43 rfl
theorem eX12_shelfType_44 (h : g_o σ b 12) : am_lim call mX12_shelfType 44 [l0, l1, l2, l3, l4, l5] (.int v1 :: .int v0 :: .ref b :: []) σ = am_k (call mX12_tellsType [.ref b, .int v0, .int v1] σ) (fun r σ1 => am_lim call mX12_shelfType 47 [l0, l1, l2, l3, l4, l5] (r.toList ++ []) σ1) := r_kV (S1 := [.int v1, .int v0]) dX12_shelfType_44 mt_12_482 rfl h (Nat.le_of_ble_eq_true rfl)
theorem eX12_shelfType_47 : am_lim call mX12_shelfType 47 [l0, l1, l2, l3, l4, l5] (.int x :: S) σ = am_lim call mX12_shelfType 49 [l0, l1, l2, l3, l4, some (.int x)] (S) σ := r_istore dX12_shelfType_47 rfl rfl rfl rfl
theorem eX12_shelfType_49 : am_lim call mX12_shelfType 49 [some (.ref a), l1, l2, l3, l4, l5] (S) σ = am_lim call mX12_shelfType 50 [some (.ref a), l1, l2, l3, l4, l5] (.ref a :: S) σ := r_aload_n dX12_shelfType_49 rfl
theorem eX12_shelfType_50 : am_lim call mX12_shelfType 50 [l0, l1, l2, some (.int x), l4, l5] (S) σ = am_lim call mX12_shelfType 51 [l0, l1, l2, some (.int x), l4, l5] (.int x :: S) σ := r_iload_n dX12_shelfType_50 rfl
theorem eX12_shelfType_51 (h : g_o σ a 12) : am_lim call mX12_shelfType 51 [l0, l1, l2, l3, l4, l5] (.int x :: .ref a :: S) σ = am_lim call mX12_shelfType 54 [l0, l1, l2, l3, l4, l5] (S) (am_sI σ a 14 x) := r_putI dX12_shelfType_51 f_12_209 rfl rfl h
theorem eX12_shelfType_54 : am_lim call mX12_shelfType 54 [some (.ref a), l1, l2, l3, l4, l5] (S) σ = am_lim call mX12_shelfType 55 [some (.ref a), l1, l2, l3, l4, l5] (.ref a :: S) σ := r_aload_n dX12_shelfType_54 rfl
theorem eX12_shelfType_55 : am_lim call mX12_shelfType 55 [l0, l1, l2, l3, some (.int x), l5] (S) σ = am_lim call mX12_shelfType 57 [l0, l1, l2, l3, some (.int x), l5] (.int x :: S) σ := r_iload dX12_shelfType_55 rfl
theorem eX12_shelfType_57 (h : g_o σ a 12) : am_lim call mX12_shelfType 57 [l0, l1, l2, l3, l4, l5] (.int x :: .ref a :: S) σ = am_lim call mX12_shelfType 60 [l0, l1, l2, l3, l4, l5] (S) (am_sI σ a 15 x) := r_putI dX12_shelfType_57 f_12_219 rfl rfl h
theorem eX12_shelfType_60 : am_lim call mX12_shelfType 60 [l0, l1, l2, l3, l4, some (.int x)] (S) σ = am_lim call mX12_shelfType 62 [l0, l1, l2, l3, l4, some (.int x)] (.int x :: S) σ := r_iload dX12_shelfType_60 rfl
theorem eX12_shelfType_62 : am_lim call mX12_shelfType 62 [l0, l1, l2, l3, l4, l5] ([.int x]) σ = some (some (.int x), σ) := r_retI dX12_shelfType_62 rfl
theorem nX12_shelfType {d : Nat} : am_run (d + 1) mX12_shelfType [.ref b, .int v0, .int v1] σ = am_lim (am_run d) mX12_shelfType 0 [some (.ref b), some (.int v0), some (.int v1), none, none, none] [] σ := am_run_S rfl rfl rfl rfl
theorem dX11_shelfBelow_0 : decode cX11_shelfBelow 0 = .ok (.aload_n 0, 1) := by decide +kernel
theorem dX11_shelfBelow_1 : decode cX11_shelfBelow 1 = .ok (.getfield 22, 3) := by decide +kernel
theorem dX11_shelfBelow_4 : decode cX11_shelfBelow 4 = .ok (.iload_n 1, 1) := by decide +kernel
theorem dX11_shelfBelow_5 : decode cX11_shelfBelow 5 = .ok (.invokevirtual 215, 3) := by decide +kernel
theorem dX11_shelfBelow_8 : decode cX11_shelfBelow 8 = .ok (.ifCond .eq 14, 3) := by decide +kernel
theorem dX11_shelfBelow_11 : decode cX11_shelfBelow 11 = .ok (.aload_n 0, 1) := by decide +kernel
theorem dX11_shelfBelow_12 : decode cX11_shelfBelow 12 = .ok (.getfield 22, 3) := by decide +kernel
theorem dX11_shelfBelow_15 : decode cX11_shelfBelow 15 = .ok (.iload_n 2, 1) := by decide +kernel
theorem dX11_shelfBelow_16 : decode cX11_shelfBelow 16 = .ok (.invokevirtual 215, 3) := by decide +kernel
theorem dX11_shelfBelow_19 : decode cX11_shelfBelow 19 = .ok (.ifCond .ne 5, 3) := by decide +kernel
theorem dX11_shelfBelow_22 : decode cX11_shelfBelow 22 = .ok (.iconst (-1), 1) := by decide +kernel
theorem dX11_shelfBelow_23 : decode cX11_shelfBelow 23 = .ok (.ireturn, 1) := by decide +kernel
theorem dX11_shelfBelow_24 : decode cX11_shelfBelow 24 = .ok (.aload_n 0, 1) := by decide +kernel
theorem dX11_shelfBelow_25 : decode cX11_shelfBelow 25 = .ok (.getfield 50, 3) := by decide +kernel
theorem dX11_shelfBelow_28 : decode cX11_shelfBelow 28 = .ok (.aload_n 0, 1) := by decide +kernel
theorem dX11_shelfBelow_29 : decode cX11_shelfBelow 29 = .ok (.getfield 33, 3) := by decide +kernel
theorem dX11_shelfBelow_32 : decode cX11_shelfBelow 32 = .ok (.aload_n 0, 1) := by decide +kernel
theorem dX11_shelfBelow_33 : decode cX11_shelfBelow 33 = .ok (.getfield 22, 3) := by decide +kernel
theorem dX11_shelfBelow_36 : decode cX11_shelfBelow 36 = .ok (.getfield 218, 3) := by decide +kernel
theorem dX11_shelfBelow_39 : decode cX11_shelfBelow 39 = .ok (.iload_n 1, 1) := by decide +kernel
theorem dX11_shelfBelow_40 : decode cX11_shelfBelow 40 = .ok (.aaload, 1) := by decide +kernel
theorem dX11_shelfBelow_41 : decode cX11_shelfBelow 41 = .ok (.aload_n 0, 1) := by decide +kernel
theorem dX11_shelfBelow_42 : decode cX11_shelfBelow 42 = .ok (.getfield 22, 3) := by decide +kernel
theorem dX11_shelfBelow_45 : decode cX11_shelfBelow 45 = .ok (.getfield 218, 3) := by decide +kernel
theorem dX11_shelfBelow_48 : decode cX11_shelfBelow 48 = .ok (.iload_n 2, 1) := by decide +kernel
theorem dX11_shelfBelow_49 : decode cX11_shelfBelow 49 = .ok (.aaload, 1) := by decide +kernel
theorem dX11_shelfBelow_50 : decode cX11_shelfBelow 50 = .ok (.invokevirtual 118, 3) := by decide +kernel
theorem dX11_shelfBelow_53 : decode cX11_shelfBelow 53 = .ok (.aload_n 0, 1) := by decide +kernel
theorem dX11_shelfBelow_54 : decode cX11_shelfBelow 54 = .ok (.getfield 50, 3) := by decide +kernel
theorem dX11_shelfBelow_57 : decode cX11_shelfBelow 57 = .ok (.invokevirtual 104, 3) := by decide +kernel
theorem dX11_shelfBelow_60 : decode cX11_shelfBelow 60 = .ok (.aload_n 0, 1) := by decide +kernel
theorem dX11_shelfBelow_61 : decode cX11_shelfBelow 61 = .ok (.getfield 33, 3) := by decide +kernel
theorem dX11_shelfBelow_64 : decode cX11_shelfBelow 64 = .ok (.getfield 131, 3) := by decide +kernel
theorem dX11_shelfBelow_67 : decode cX11_shelfBelow 67 = .ok (.ireturn, 1) := by decide +kernel
theorem eX11_shelfBelow_0 : am_lim call mX11_shelfBelow 0 [some (.ref a), l1, l2] (S) σ = am_lim call mX11_shelfBelow 1 [some (.ref a), l1, l2] (.ref a :: S) σ := r_aload_n dX11_shelfBelow_0 rfl
theorem eX11_shelfBelow_1 (h : g_o σ a 11) : am_lim call mX11_shelfBelow 1 [l0, l1, l2] (.ref a :: S) σ = am_lim call mX11_shelfBelow 4 [l0, l1, l2] (va_rf (g_R σ a 1) :: S) σ := r_getR dX11_shelfBelow_1 f_11_22 rfl h
theorem eX11_shelfBelow_4 : am_lim call mX11_shelfBelow 4 [l0, some (.int x), l2] (S) σ = am_lim call mX11_shelfBelow 5 [l0, some (.int x), l2] (.int x :: S) σ := r_iload_n dX11_shelfBelow_4 rfl
theorem eX11_shelfBelow_5 (h : g_o σ b 5) : am_lim call mX11_shelfBelow 5 [l0, l1, l2] (.int v0 :: .ref b :: []) σ = am_k (call mX5_has [.ref b, .int v0] σ) (fun r σ1 => am_lim call mX11_shelfBelow 8 [l0, l1, l2] (r.toList ++ []) σ1) := r_kV (S1 := [.int v0]) dX11_shelfBelow_5 mt_11_215 rfl h (Nat.le_of_ble_eq_true rfl)
theorem eX11_shelfBelow_8 : am_lim call mX11_shelfBelow 8 [l0, l1, l2] (.int x :: S) σ = if x = 0 then am_lim call mX11_shelfBelow 22 [l0, l1, l2] (S) σ else am_lim call mX11_shelfBelow 11 [l0, l1, l2] (S) σ := r_ifB 22 dX11_shelfBelow_8 (by decide) rfl
theorem eX11_shelfBelow_11 : am_lim call mX11_shelfBelow 11 [some (.ref a), l1, l2] (S) σ = am_lim call mX11_shelfBelow 12 [some (.ref a), l1, l2] (.ref a :: S) σ := r_aload_n dX11_shelfBelow_11 rfl
theorem eX11_shelfBelow_12 (h : g_o σ a 11) : am_lim call mX11_shelfBelow 12 [l0, l1, l2] (.ref a :: S) σ = am_lim call mX11_shelfBelow 15 [l0, l1, l2] (va_rf (g_R σ a 1) :: S) σ := r_getR dX11_shelfBelow_12 f_11_22 rfl h
theorem eX11_shelfBelow_15 : am_lim call mX11_shelfBelow 15 [l0, l1, some (.int x)] (S) σ = am_lim call mX11_shelfBelow 16 [l0, l1, some (.int x)] (.int x :: S) σ := r_iload_n dX11_shelfBelow_15 rfl
theorem eX11_shelfBelow_16 (h : g_o σ b 5) : am_lim call mX11_shelfBelow 16 [l0, l1, l2] (.int v0 :: .ref b :: []) σ = am_k (call mX5_has [.ref b, .int v0] σ) (fun r σ1 => am_lim call mX11_shelfBelow 19 [l0, l1, l2] (r.toList ++ []) σ1) := r_kV (S1 := [.int v0]) dX11_shelfBelow_16 mt_11_215 rfl h (Nat.le_of_ble_eq_true rfl)
theorem eX11_shelfBelow_19 : am_lim call mX11_shelfBelow 19 [l0, l1, l2] (.int x :: S) σ = if x ≠ 0 then am_lim call mX11_shelfBelow 24 [l0, l1, l2] (S) σ else am_lim call mX11_shelfBelow 22 [l0, l1, l2] (S) σ := r_ifB 24 dX11_shelfBelow_19 (by decide) rfl
theorem eX11_shelfBelow_24 : am_lim call mX11_shelfBelow 24 [some (.ref a), l1, l2] (S) σ = am_lim call mX11_shelfBelow 25 [some (.ref a), l1, l2] (.ref a :: S) σ := r_aload_n dX11_shelfBelow_24 rfl
theorem eX11_shelfBelow_25 (h : g_o σ a 11) : am_lim call mX11_shelfBelow 25 [l0, l1, l2] (.ref a :: S) σ = am_lim call mX11_shelfBelow 28 [l0, l1, l2] (va_rf (g_R σ a 2) :: S) σ := r_getR dX11_shelfBelow_25 f_11_50 rfl h
theorem eX11_shelfBelow_28 : am_lim call mX11_shelfBelow 28 [some (.ref a), l1, l2] (S) σ = am_lim call mX11_shelfBelow 29 [some (.ref a), l1, l2] (.ref a :: S) σ := r_aload_n dX11_shelfBelow_28 rfl
theorem eX11_shelfBelow_29 (h : g_o σ a 11) : am_lim call mX11_shelfBelow 29 [l0, l1, l2] (.ref a :: S) σ = am_lim call mX11_shelfBelow 32 [l0, l1, l2] (va_rf (g_R σ a 6) :: S) σ := r_getR dX11_shelfBelow_29 f_11_33 rfl h
theorem eX11_shelfBelow_32 : am_lim call mX11_shelfBelow 32 [some (.ref a), l1, l2] (S) σ = am_lim call mX11_shelfBelow 33 [some (.ref a), l1, l2] (.ref a :: S) σ := r_aload_n dX11_shelfBelow_32 rfl
theorem eX11_shelfBelow_33 (h : g_o σ a 11) : am_lim call mX11_shelfBelow 33 [l0, l1, l2] (.ref a :: S) σ = am_lim call mX11_shelfBelow 36 [l0, l1, l2] (va_rf (g_R σ a 1) :: S) σ := r_getR dX11_shelfBelow_33 f_11_22 rfl h
theorem eX11_shelfBelow_36 (h : g_o σ a 5) : am_lim call mX11_shelfBelow 36 [l0, l1, l2] (.ref a :: S) σ = am_lim call mX11_shelfBelow 39 [l0, l1, l2] (va_rf (g_R σ a 3) :: S) σ := r_getR dX11_shelfBelow_36 f_11_218 rfl h
theorem eX11_shelfBelow_39 : am_lim call mX11_shelfBelow 39 [l0, some (.int x), l2] (S) σ = am_lim call mX11_shelfBelow 40 [l0, some (.int x), l2] (.int x :: S) σ := r_iload_n dX11_shelfBelow_39 rfl
theorem eX11_shelfBelow_40 {n : Nat} (h : g_q σ a n) (hi : am_in x n) : am_lim call mX11_shelfBelow 40 [l0, l1, l2] (.int x :: .ref a :: S) σ = am_lim call mX11_shelfBelow 41 [l0, l1, l2] (va_rf (g_R σ a x.toNatClampNeg) :: S) σ := r_aald dX11_shelfBelow_40 h hi
theorem eX11_shelfBelow_41 : am_lim call mX11_shelfBelow 41 [some (.ref a), l1, l2] (S) σ = am_lim call mX11_shelfBelow 42 [some (.ref a), l1, l2] (.ref a :: S) σ := r_aload_n dX11_shelfBelow_41 rfl
theorem eX11_shelfBelow_42 (h : g_o σ a 11) : am_lim call mX11_shelfBelow 42 [l0, l1, l2] (.ref a :: S) σ = am_lim call mX11_shelfBelow 45 [l0, l1, l2] (va_rf (g_R σ a 1) :: S) σ := r_getR dX11_shelfBelow_42 f_11_22 rfl h
theorem eX11_shelfBelow_45 (h : g_o σ a 5) : am_lim call mX11_shelfBelow 45 [l0, l1, l2] (.ref a :: S) σ = am_lim call mX11_shelfBelow 48 [l0, l1, l2] (va_rf (g_R σ a 3) :: S) σ := r_getR dX11_shelfBelow_45 f_11_218 rfl h
theorem eX11_shelfBelow_48 : am_lim call mX11_shelfBelow 48 [l0, l1, some (.int x)] (S) σ = am_lim call mX11_shelfBelow 49 [l0, l1, some (.int x)] (.int x :: S) σ := r_iload_n dX11_shelfBelow_48 rfl
theorem eX11_shelfBelow_49 {n : Nat} (h : g_q σ a n) (hi : am_in x n) : am_lim call mX11_shelfBelow 49 [l0, l1, l2] (.int x :: .ref a :: S) σ = am_lim call mX11_shelfBelow 50 [l0, l1, l2] (va_rf (g_R σ a x.toNatClampNeg) :: S) σ := r_aald dX11_shelfBelow_49 h hi
theorem eX11_shelfBelow_50 (h : g_o σ b 1) : am_lim call mX11_shelfBelow 50 [l0, l1, l2] (.ref p2 :: .ref p1 :: .ref p0 :: .ref b :: []) σ = am_k (call mX1_startTypes [.ref b, .ref p0, .ref p1, .ref p2] σ) (fun r σ1 => am_lim call mX11_shelfBelow 53 [l0, l1, l2] (r.toList ++ []) σ1) := r_kV (S1 := [.ref p2, .ref p1, .ref p0]) dX11_shelfBelow_50 mt_11_118 rfl h (Nat.le_of_ble_eq_true rfl)
theorem eX11_shelfBelow_53 : am_lim call mX11_shelfBelow 53 [some (.ref a), l1, l2] (S) σ = am_lim call mX11_shelfBelow 54 [some (.ref a), l1, l2] (.ref a :: S) σ := r_aload_n dX11_shelfBelow_53 rfl
theorem eX11_shelfBelow_54 (h : g_o σ a 11) : am_lim call mX11_shelfBelow 54 [l0, l1, l2] (.ref a :: S) σ = am_lim call mX11_shelfBelow 57 [l0, l1, l2] (va_rf (g_R σ a 2) :: S) σ := r_getR dX11_shelfBelow_54 f_11_50 rfl h
theorem eX11_shelfBelow_57 (h : g_o σ b 1) : am_lim call mX11_shelfBelow 57 [l0, l1, l2] (.ref b :: []) σ = am_k (call mX1_run [.ref b] σ) (fun r σ1 => am_lim call mX11_shelfBelow 60 [l0, l1, l2] (r.toList ++ []) σ1) := r_kV (S1 := []) dX11_shelfBelow_57 mt_11_104 rfl h (Nat.le_of_ble_eq_true rfl)
theorem eX11_shelfBelow_60 : am_lim call mX11_shelfBelow 60 [some (.ref a), l1, l2] (S) σ = am_lim call mX11_shelfBelow 61 [some (.ref a), l1, l2] (.ref a :: S) σ := r_aload_n dX11_shelfBelow_60 rfl
theorem eX11_shelfBelow_61 (h : g_o σ a 11) : am_lim call mX11_shelfBelow 61 [l0, l1, l2] (.ref a :: S) σ = am_lim call mX11_shelfBelow 64 [l0, l1, l2] (va_rf (g_R σ a 6) :: S) σ := r_getR dX11_shelfBelow_61 f_11_33 rfl h
theorem eX11_shelfBelow_64 (h : g_o σ a 2) : am_lim call mX11_shelfBelow 64 [l0, l1, l2] (.ref a :: S) σ = am_lim call mX11_shelfBelow 67 [l0, l1, l2] (.int (g_I σ a 3) :: S) σ := r_getI dX11_shelfBelow_64 f_11_131 rfl h
theorem eX11_shelfBelow_67 : am_lim call mX11_shelfBelow 67 [l0, l1, l2] ([.int x]) σ = some (some (.int x), σ) := r_retI dX11_shelfBelow_67 rfl
theorem eX11_shelfBelow_22 : am_lim call mX11_shelfBelow 22 [l0, l1, l2] (S) σ = am_lim call mX11_shelfBelow 23 [l0, l1, l2] (.int (-1) :: S) σ := r_iconst dX11_shelfBelow_22 (by decide)
theorem eX11_shelfBelow_23 : am_lim call mX11_shelfBelow 23 [l0, l1, l2] ([.int x]) σ = some (some (.int x), σ) := r_retI dX11_shelfBelow_23 rfl
theorem nX11_shelfBelow {d : Nat} : am_run (d + 1) mX11_shelfBelow [.ref b, .int v0, .int v1] σ = am_lim (am_run d) mX11_shelfBelow 0 [some (.ref b), some (.int v0), some (.int v1)] [] σ := am_run_S rfl rfl rfl rfl
theorem dX12_shelfBelow_0 : decode cX12_shelfBelow 0 = .ok (.aload_n 0, 1) := by decide +kernel
theorem dX12_shelfBelow_1 : decode cX12_shelfBelow 1 = .ok (.iconst 0, 1) := by decide +kernel
theorem dX12_shelfBelow_2 : decode cX12_shelfBelow 2 = .ok (.putfield 113, 3) := by decide +kernel
theorem dX12_shelfBelow_5 : decode cX12_shelfBelow 5 = .ok (.iload_n 1, 1) := by decide +kernel
theorem dX12_shelfBelow_6 : decode cX12_shelfBelow 6 = .ok (.i2l, 1) := by decide +kernel
theorem dX12_shelfBelow_7 : decode cX12_shelfBelow 7 = .ok (.lconst 0, 1) := by decide +kernel
theorem dX12_shelfBelow_8 : decode cX12_shelfBelow 8 = .ok (.aload_n 0, 1) := by decide +kernel
theorem dX12_shelfBelow_9 : decode cX12_shelfBelow 9 = .ok (.getfield 414, 3) := by decide +kernel
theorem dX12_shelfBelow_12 : decode cX12_shelfBelow 12 = .ok (.iconst 1, 1) := by decide +kernel
theorem dX12_shelfBelow_13 : decode cX12_shelfBelow 13 = .ok (.isub, 1) := by decide +kernel
theorem dX12_shelfBelow_14 : decode cX12_shelfBelow 14 = .ok (.i2l, 1) := by decide +kernel
theorem dX12_shelfBelow_15 : decode cX12_shelfBelow 15 = .ok (.invokestatic 199, 3) := by decide +kernel
theorem dX12_shelfBelow_18 : decode cX12_shelfBelow 18 = .ok (.ifCond .eq 19, 3) := by decide +kernel
theorem dX12_shelfBelow_21 : decode cX12_shelfBelow 21 = .ok (.iload_n 2, 1) := by decide +kernel
theorem dX12_shelfBelow_22 : decode cX12_shelfBelow 22 = .ok (.i2l, 1) := by decide +kernel
theorem dX12_shelfBelow_23 : decode cX12_shelfBelow 23 = .ok (.lconst 0, 1) := by decide +kernel
theorem dX12_shelfBelow_24 : decode cX12_shelfBelow 24 = .ok (.aload_n 0, 1) := by decide +kernel
theorem dX12_shelfBelow_25 : decode cX12_shelfBelow 25 = .ok (.getfield 414, 3) := by decide +kernel
theorem dX12_shelfBelow_28 : decode cX12_shelfBelow 28 = .ok (.iconst 1, 1) := by decide +kernel
theorem dX12_shelfBelow_29 : decode cX12_shelfBelow 29 = .ok (.isub, 1) := by decide +kernel
theorem dX12_shelfBelow_30 : decode cX12_shelfBelow 30 = .ok (.i2l, 1) := by decide +kernel
theorem dX12_shelfBelow_31 : decode cX12_shelfBelow 31 = .ok (.invokestatic 199, 3) := by decide +kernel
theorem dX12_shelfBelow_34 : decode cX12_shelfBelow 34 = .ok (.ifCond .ne 5, 3) := by decide +kernel
theorem dX12_shelfBelow_37 : decode cX12_shelfBelow 37 = .ok (.iconst (-1), 1) := by decide +kernel
theorem dX12_shelfBelow_38 : decode cX12_shelfBelow 38 = .ok (.ireturn, 1) := by decide +kernel
theorem dX12_shelfBelow_39 : decode cX12_shelfBelow 39 = .ok (.aload_n 0, 1) := by decide +kernel
theorem dX12_shelfBelow_40 : decode cX12_shelfBelow 40 = .ok (.invokevirtual 512, 3) := by decide +kernel
theorem dX12_shelfBelow_43 : decode cX12_shelfBelow 43 = .ok (.aload_n 0, 1) := by decide +kernel
theorem dX12_shelfBelow_44 : decode cX12_shelfBelow 44 = .ok (.iconst 0, 1) := by decide +kernel
theorem dX12_shelfBelow_45 : decode cX12_shelfBelow 45 = .ok (.ldc_w 420, 3) := by decide +kernel
theorem dX12_shelfBelow_48 : decode cX12_shelfBelow 48 = .ok (.invokevirtual 421, 3) := by decide +kernel
theorem dX12_shelfBelow_51 : decode cX12_shelfBelow 51 = .ok (.aload_n 0, 1) := by decide +kernel
theorem dX12_shelfBelow_52 : decode cX12_shelfBelow 52 = .ok (.iload_n 1, 1) := by decide +kernel
theorem dX12_shelfBelow_53 : decode cX12_shelfBelow 53 = .ok (.invokestatic 417, 3) := by decide +kernel
theorem dX12_shelfBelow_56 : decode cX12_shelfBelow 56 = .ok (.invokevirtual 354, 3) := by decide +kernel
theorem dX12_shelfBelow_59 : decode cX12_shelfBelow 59 = .ok (.istore_n 3, 1) := by decide +kernel
theorem dX12_shelfBelow_60 : decode cX12_shelfBelow 60 = .ok (.aload_n 0, 1) := by decide +kernel
theorem dX12_shelfBelow_61 : decode cX12_shelfBelow 61 = .ok (.iload_n 3, 1) := by decide +kernel
theorem dX12_shelfBelow_62 : decode cX12_shelfBelow 62 = .ok (.aload_n 0, 1) := by decide +kernel
theorem dX12_shelfBelow_63 : decode cX12_shelfBelow 63 = .ok (.iload_n 2, 1) := by decide +kernel
theorem dX12_shelfBelow_64 : decode cX12_shelfBelow 64 = .ok (.invokestatic 417, 3) := by decide +kernel
theorem dX12_shelfBelow_67 : decode cX12_shelfBelow 67 = .ok (.invokevirtual 354, 3) := by decide +kernel
theorem dX12_shelfBelow_70 : decode cX12_shelfBelow 70 = .ok (.invokevirtual 333, 3) := by decide +kernel
theorem dX12_shelfBelow_73 : decode cX12_shelfBelow 73 = .ok (.aload_n 0, 1) := by decide +kernel
theorem dX12_shelfBelow_74 : decode cX12_shelfBelow 74 = .ok (.getfield 264, 3) := by decide +kernel
theorem dX12_shelfBelow_77 : decode cX12_shelfBelow 77 = .ok (.istore 4, 2) := by decide +kernel
theorem dX12_shelfBelow_79 : decode cX12_shelfBelow 79 = .ok (.aload_n 0, 1) := by decide +kernel
theorem dX12_shelfBelow_80 : decode cX12_shelfBelow 80 = .ok (.invokevirtual 515, 3) := by decide +kernel
theorem dX12_shelfBelow_83 : decode cX12_shelfBelow 83 = .ok (.iload 4, 2) := by decide +kernel
theorem dX12_shelfBelow_85 : decode cX12_shelfBelow 85 = .ok (.ireturn, 1) := by decide +kernel
theorem eX12_shelfBelow_0 : am_lim call mX12_shelfBelow 0 [some (.ref a), l1, l2, l3, l4] (S) σ = am_lim call mX12_shelfBelow 1 [some (.ref a), l1, l2, l3, l4] (.ref a :: S) σ := r_aload_n dX12_shelfBelow_0 rfl
theorem eX12_shelfBelow_1 : am_lim call mX12_shelfBelow 1 [l0, l1, l2, l3, l4] (S) σ = am_lim call mX12_shelfBelow 2 [l0, l1, l2, l3, l4] (.int 0 :: S) σ := r_iconst dX12_shelfBelow_1 (by decide)
theorem eX12_shelfBelow_2 (h : g_o σ a 12) : am_lim call mX12_shelfBelow 2 [l0, l1, l2, l3, l4] (.int x :: .ref a :: S) σ = am_lim call mX12_shelfBelow 5 [l0, l1, l2, l3, l4] (S) (am_sI σ a 0 x) := r_putI dX12_shelfBelow_2 f_12_113 rfl rfl h
theorem eX12_shelfBelow_5 : am_lim call mX12_shelfBelow 5 [l0, some (.int x), l2, l3, l4] (S) σ = am_lim call mX12_shelfBelow 6 [l0, some (.int x), l2, l3, l4] (.int x :: S) σ := r_iload_n dX12_shelfBelow_5 rfl
theorem eX12_shelfBelow_6 : am_lim call mX12_shelfBelow 6 [l0, l1, l2, l3, l4] (.int x :: S) σ = am_lim call mX12_shelfBelow 7 [l0, l1, l2, l3, l4] (.long x.toInt64 :: S) σ := r_i2l dX12_shelfBelow_6
theorem eX12_shelfBelow_7 : am_lim call mX12_shelfBelow 7 [l0, l1, l2, l3, l4] (S) σ = am_lim call mX12_shelfBelow 8 [l0, l1, l2, l3, l4] (.long 0 :: S) σ := r_lconst dX12_shelfBelow_7 (by decide)
theorem eX12_shelfBelow_8 : am_lim call mX12_shelfBelow 8 [some (.ref a), l1, l2, l3, l4] (S) σ = am_lim call mX12_shelfBelow 9 [some (.ref a), l1, l2, l3, l4] (.ref a :: S) σ := r_aload_n dX12_shelfBelow_8 rfl
theorem eX12_shelfBelow_9 (h : g_o σ a 12) : am_lim call mX12_shelfBelow 9 [l0, l1, l2, l3, l4] (.ref a :: S) σ = am_lim call mX12_shelfBelow 12 [l0, l1, l2, l3, l4] (.int (g_I σ a 43) :: S) σ := r_getI dX12_shelfBelow_9 f_12_414 rfl h
theorem eX12_shelfBelow_12 : am_lim call mX12_shelfBelow 12 [l0, l1, l2, l3, l4] (S) σ = am_lim call mX12_shelfBelow 13 [l0, l1, l2, l3, l4] (.int 1 :: S) σ := r_iconst dX12_shelfBelow_12 (by decide)
theorem eX12_shelfBelow_13 : am_lim call mX12_shelfBelow 13 [l0, l1, l2, l3, l4] (.int y :: .int x :: S) σ = am_lim call mX12_shelfBelow 14 [l0, l1, l2, l3, l4] (.int (x - y) :: S) σ := r_isub dX12_shelfBelow_13
theorem eX12_shelfBelow_14 : am_lim call mX12_shelfBelow 14 [l0, l1, l2, l3, l4] (.int x :: S) σ = am_lim call mX12_shelfBelow 15 [l0, l1, l2, l3, l4] (.long x.toInt64 :: S) σ := r_i2l dX12_shelfBelow_14
theorem eX12_shelfBelow_15 : am_lim call mX12_shelfBelow 15 [l0, l1, l2, l3, l4] (.long w2 :: .long w1 :: .long w0 :: []) σ = am_k (call mX12_isIn [.long w0, .long w1, .long w2] σ) (fun r σ1 => am_lim call mX12_shelfBelow 18 [l0, l1, l2, l3, l4] (r.toList ++ []) σ1) := r_kS (S1 := [.long w2, .long w1, .long w0]) dX12_shelfBelow_15 ⟨rfl, rfl, rfl⟩ mt_12_199 rfl (Nat.le_of_ble_eq_true rfl)
theorem eX12_shelfBelow_18 : am_lim call mX12_shelfBelow 18 [l0, l1, l2, l3, l4] (.int x :: S) σ = if x = 0 then am_lim call mX12_shelfBelow 37 [l0, l1, l2, l3, l4] (S) σ else am_lim call mX12_shelfBelow 21 [l0, l1, l2, l3, l4] (S) σ := r_ifB 37 dX12_shelfBelow_18 (by decide) rfl
theorem eX12_shelfBelow_21 : am_lim call mX12_shelfBelow 21 [l0, l1, some (.int x), l3, l4] (S) σ = am_lim call mX12_shelfBelow 22 [l0, l1, some (.int x), l3, l4] (.int x :: S) σ := r_iload_n dX12_shelfBelow_21 rfl
theorem eX12_shelfBelow_22 : am_lim call mX12_shelfBelow 22 [l0, l1, l2, l3, l4] (.int x :: S) σ = am_lim call mX12_shelfBelow 23 [l0, l1, l2, l3, l4] (.long x.toInt64 :: S) σ := r_i2l dX12_shelfBelow_22
theorem eX12_shelfBelow_23 : am_lim call mX12_shelfBelow 23 [l0, l1, l2, l3, l4] (S) σ = am_lim call mX12_shelfBelow 24 [l0, l1, l2, l3, l4] (.long 0 :: S) σ := r_lconst dX12_shelfBelow_23 (by decide)
theorem eX12_shelfBelow_24 : am_lim call mX12_shelfBelow 24 [some (.ref a), l1, l2, l3, l4] (S) σ = am_lim call mX12_shelfBelow 25 [some (.ref a), l1, l2, l3, l4] (.ref a :: S) σ := r_aload_n dX12_shelfBelow_24 rfl
theorem eX12_shelfBelow_25 (h : g_o σ a 12) : am_lim call mX12_shelfBelow 25 [l0, l1, l2, l3, l4] (.ref a :: S) σ = am_lim call mX12_shelfBelow 28 [l0, l1, l2, l3, l4] (.int (g_I σ a 43) :: S) σ := r_getI dX12_shelfBelow_25 f_12_414 rfl h
theorem eX12_shelfBelow_28 : am_lim call mX12_shelfBelow 28 [l0, l1, l2, l3, l4] (S) σ = am_lim call mX12_shelfBelow 29 [l0, l1, l2, l3, l4] (.int 1 :: S) σ := r_iconst dX12_shelfBelow_28 (by decide)
theorem eX12_shelfBelow_29 : am_lim call mX12_shelfBelow 29 [l0, l1, l2, l3, l4] (.int y :: .int x :: S) σ = am_lim call mX12_shelfBelow 30 [l0, l1, l2, l3, l4] (.int (x - y) :: S) σ := r_isub dX12_shelfBelow_29
theorem eX12_shelfBelow_30 : am_lim call mX12_shelfBelow 30 [l0, l1, l2, l3, l4] (.int x :: S) σ = am_lim call mX12_shelfBelow 31 [l0, l1, l2, l3, l4] (.long x.toInt64 :: S) σ := r_i2l dX12_shelfBelow_30
theorem eX12_shelfBelow_31 : am_lim call mX12_shelfBelow 31 [l0, l1, l2, l3, l4] (.long w2 :: .long w1 :: .long w0 :: []) σ = am_k (call mX12_isIn [.long w0, .long w1, .long w2] σ) (fun r σ1 => am_lim call mX12_shelfBelow 34 [l0, l1, l2, l3, l4] (r.toList ++ []) σ1) := r_kS (S1 := [.long w2, .long w1, .long w0]) dX12_shelfBelow_31 ⟨rfl, rfl, rfl⟩ mt_12_199 rfl (Nat.le_of_ble_eq_true rfl)
theorem eX12_shelfBelow_34 : am_lim call mX12_shelfBelow 34 [l0, l1, l2, l3, l4] (.int x :: S) σ = if x ≠ 0 then am_lim call mX12_shelfBelow 39 [l0, l1, l2, l3, l4] (S) σ else am_lim call mX12_shelfBelow 37 [l0, l1, l2, l3, l4] (S) σ := r_ifB 39 dX12_shelfBelow_34 (by decide) rfl
theorem eX12_shelfBelow_39 : am_lim call mX12_shelfBelow 39 [some (.ref a), l1, l2, l3, l4] (S) σ = am_lim call mX12_shelfBelow 40 [some (.ref a), l1, l2, l3, l4] (.ref a :: S) σ := r_aload_n dX12_shelfBelow_39 rfl
theorem eX12_shelfBelow_40 (h : g_o σ b 12) : am_lim call mX12_shelfBelow 40 [l0, l1, l2, l3, l4] (.ref b :: []) σ = am_k (call mX12_laysAside [.ref b] σ) (fun r σ1 => am_lim call mX12_shelfBelow 43 [l0, l1, l2, l3, l4] (r.toList ++ []) σ1) := r_kV (S1 := []) dX12_shelfBelow_40 mt_12_512 rfl h (Nat.le_of_ble_eq_true rfl)
theorem eX12_shelfBelow_43 : am_lim call mX12_shelfBelow 43 [some (.ref a), l1, l2, l3, l4] (S) σ = am_lim call mX12_shelfBelow 44 [some (.ref a), l1, l2, l3, l4] (.ref a :: S) σ := r_aload_n dX12_shelfBelow_43 rfl
theorem eX12_shelfBelow_44 : am_lim call mX12_shelfBelow 44 [l0, l1, l2, l3, l4] (S) σ = am_lim call mX12_shelfBelow 45 [l0, l1, l2, l3, l4] (.int 0 :: S) σ := r_iconst dX12_shelfBelow_44 (by decide)
theorem eX12_shelfBelow_45 : am_lim call mX12_shelfBelow 45 [l0, l1, l2, l3, l4] (S) σ = am_lim call mX12_shelfBelow 48 [l0, l1, l2, l3, l4] (.int 1000000 :: S) σ := r_ldcw dX12_shelfBelow_45 (by decide +kernel)
theorem eX12_shelfBelow_48 (h : g_o σ b 12) : am_lim call mX12_shelfBelow 48 [l0, l1, l2, l3, l4] (.int v1 :: .int v0 :: .ref b :: []) σ = am_k (call mX12_clears [.ref b, .int v0, .int v1] σ) (fun r σ1 => am_lim call mX12_shelfBelow 51 [l0, l1, l2, l3, l4] (r.toList ++ []) σ1) := r_kV (S1 := [.int v1, .int v0]) dX12_shelfBelow_48 mt_12_421 rfl h (Nat.le_of_ble_eq_true rfl)
theorem eX12_shelfBelow_51 : am_lim call mX12_shelfBelow 51 [some (.ref a), l1, l2, l3, l4] (S) σ = am_lim call mX12_shelfBelow 52 [some (.ref a), l1, l2, l3, l4] (.ref a :: S) σ := r_aload_n dX12_shelfBelow_51 rfl
theorem eX12_shelfBelow_52 : am_lim call mX12_shelfBelow 52 [l0, some (.int x), l2, l3, l4] (S) σ = am_lim call mX12_shelfBelow 53 [l0, some (.int x), l2, l3, l4] (.int x :: S) σ := r_iload_n dX12_shelfBelow_52 rfl
theorem eX12_shelfBelow_53 : am_lim call mX12_shelfBelow 53 [l0, l1, l2, l3, l4] (.int v0 :: .ref q0 :: []) σ = am_k (call mX12_typeRowOf [.int v0] σ) (fun r σ1 => am_lim call mX12_shelfBelow 56 [l0, l1, l2, l3, l4] (r.toList ++ .ref q0 :: []) σ1) := r_kS (S1 := [.int v0]) dX12_shelfBelow_53 ⟨rfl, rfl, rfl⟩ mt_12_417 rfl (Nat.le_of_ble_eq_true rfl)
theorem eX12_shelfBelow_56 (h : g_o σ b 12) : am_lim call mX12_shelfBelow 56 [l0, l1, l2, l3, l4] (.int v0 :: .ref b :: []) σ = am_k (call mX12_typeFrom [.ref b, .int v0] σ) (fun r σ1 => am_lim call mX12_shelfBelow 59 [l0, l1, l2, l3, l4] (r.toList ++ []) σ1) := r_kV (S1 := [.int v0]) dX12_shelfBelow_56 mt_12_354 rfl h (Nat.le_of_ble_eq_true rfl)
theorem eX12_shelfBelow_59 : am_lim call mX12_shelfBelow 59 [l0, l1, l2, l3, l4] (.int x :: S) σ = am_lim call mX12_shelfBelow 60 [l0, l1, l2, some (.int x), l4] (S) σ := r_istore_n dX12_shelfBelow_59 rfl rfl rfl rfl
theorem eX12_shelfBelow_60 : am_lim call mX12_shelfBelow 60 [some (.ref a), l1, l2, l3, l4] (S) σ = am_lim call mX12_shelfBelow 61 [some (.ref a), l1, l2, l3, l4] (.ref a :: S) σ := r_aload_n dX12_shelfBelow_60 rfl
theorem eX12_shelfBelow_61 : am_lim call mX12_shelfBelow 61 [l0, l1, l2, some (.int x), l4] (S) σ = am_lim call mX12_shelfBelow 62 [l0, l1, l2, some (.int x), l4] (.int x :: S) σ := r_iload_n dX12_shelfBelow_61 rfl
theorem eX12_shelfBelow_62 : am_lim call mX12_shelfBelow 62 [some (.ref a), l1, l2, l3, l4] (S) σ = am_lim call mX12_shelfBelow 63 [some (.ref a), l1, l2, l3, l4] (.ref a :: S) σ := r_aload_n dX12_shelfBelow_62 rfl
theorem eX12_shelfBelow_63 : am_lim call mX12_shelfBelow 63 [l0, l1, some (.int x), l3, l4] (S) σ = am_lim call mX12_shelfBelow 64 [l0, l1, some (.int x), l3, l4] (.int x :: S) σ := r_iload_n dX12_shelfBelow_63 rfl
theorem eX12_shelfBelow_64 : am_lim call mX12_shelfBelow 64 [l0, l1, l2, l3, l4] (.int v0 :: .ref q0 :: .int s1 :: .ref q2 :: []) σ = am_k (call mX12_typeRowOf [.int v0] σ) (fun r σ1 => am_lim call mX12_shelfBelow 67 [l0, l1, l2, l3, l4] (r.toList ++ .ref q0 :: .int s1 :: .ref q2 :: []) σ1) := r_kS (S1 := [.int v0]) dX12_shelfBelow_64 ⟨rfl, rfl, rfl⟩ mt_12_417 rfl (Nat.le_of_ble_eq_true rfl)
theorem eX12_shelfBelow_67 (h : g_o σ b 12) : am_lim call mX12_shelfBelow 67 [l0, l1, l2, l3, l4] (.int v0 :: .ref b :: .int s0 :: .ref q1 :: []) σ = am_k (call mX12_typeFrom [.ref b, .int v0] σ) (fun r σ1 => am_lim call mX12_shelfBelow 70 [l0, l1, l2, l3, l4] (r.toList ++ .int s0 :: .ref q1 :: []) σ1) := r_kV (S1 := [.int v0]) dX12_shelfBelow_67 mt_12_354 rfl h (Nat.le_of_ble_eq_true rfl)
theorem eX12_shelfBelow_70 (h : g_o σ b 12) : am_lim call mX12_shelfBelow 70 [l0, l1, l2, l3, l4] (.int v1 :: .int v0 :: .ref b :: []) σ = am_k (call mX12_below [.ref b, .int v0, .int v1] σ) (fun r σ1 => am_lim call mX12_shelfBelow 73 [l0, l1, l2, l3, l4] (r.toList ++ []) σ1) := r_kV (S1 := [.int v1, .int v0]) dX12_shelfBelow_70 mt_12_333 rfl h (Nat.le_of_ble_eq_true rfl)
theorem eX12_shelfBelow_73 : am_lim call mX12_shelfBelow 73 [some (.ref a), l1, l2, l3, l4] (S) σ = am_lim call mX12_shelfBelow 74 [some (.ref a), l1, l2, l3, l4] (.ref a :: S) σ := r_aload_n dX12_shelfBelow_73 rfl
theorem eX12_shelfBelow_74 (h : g_o σ a 12) : am_lim call mX12_shelfBelow 74 [l0, l1, l2, l3, l4] (.ref a :: S) σ = am_lim call mX12_shelfBelow 77 [l0, l1, l2, l3, l4] (.int (g_I σ a 29) :: S) σ := r_getI dX12_shelfBelow_74 f_12_264 rfl h
theorem eX12_shelfBelow_77 : am_lim call mX12_shelfBelow 77 [l0, l1, l2, l3, l4] (.int x :: S) σ = am_lim call mX12_shelfBelow 79 [l0, l1, l2, l3, some (.int x)] (S) σ := r_istore dX12_shelfBelow_77 rfl rfl rfl rfl
theorem eX12_shelfBelow_79 : am_lim call mX12_shelfBelow 79 [some (.ref a), l1, l2, l3, l4] (S) σ = am_lim call mX12_shelfBelow 80 [some (.ref a), l1, l2, l3, l4] (.ref a :: S) σ := r_aload_n dX12_shelfBelow_79 rfl
theorem eX12_shelfBelow_80 (h : g_o σ b 12) : am_lim call mX12_shelfBelow 80 [l0, l1, l2, l3, l4] (.ref b :: []) σ = am_k (call mX12_takesBack [.ref b] σ) (fun r σ1 => am_lim call mX12_shelfBelow 83 [l0, l1, l2, l3, l4] (r.toList ++ []) σ1) := r_kV (S1 := []) dX12_shelfBelow_80 mt_12_515 rfl h (Nat.le_of_ble_eq_true rfl)
theorem eX12_shelfBelow_83 : am_lim call mX12_shelfBelow 83 [l0, l1, l2, l3, some (.int x)] (S) σ = am_lim call mX12_shelfBelow 85 [l0, l1, l2, l3, some (.int x)] (.int x :: S) σ := r_iload dX12_shelfBelow_83 rfl
theorem eX12_shelfBelow_85 : am_lim call mX12_shelfBelow 85 [l0, l1, l2, l3, l4] ([.int x]) σ = some (some (.int x), σ) := r_retI dX12_shelfBelow_85 rfl
theorem eX12_shelfBelow_37 : am_lim call mX12_shelfBelow 37 [l0, l1, l2, l3, l4] (S) σ = am_lim call mX12_shelfBelow 38 [l0, l1, l2, l3, l4] (.int (-1) :: S) σ := r_iconst dX12_shelfBelow_37 (by decide)
theorem eX12_shelfBelow_38 : am_lim call mX12_shelfBelow 38 [l0, l1, l2, l3, l4] ([.int x]) σ = some (some (.int x), σ) := r_retI dX12_shelfBelow_38 rfl
theorem nX12_shelfBelow {d : Nat} : am_run (d + 1) mX12_shelfBelow [.ref b, .int v0, .int v1] σ = am_lim (am_run d) mX12_shelfBelow 0 [some (.ref b), some (.int v0), some (.int v1), none, none] [] σ := am_run_S rfl rfl rfl rfl
theorem dX11_tells_0 : decode cX11_tells 0 = .ok (.iload_n 1, 1) := by decide +kernel
theorem dX11_tells_1 : decode cX11_tells 1 = .ok (.ifCond .lt 20, 3) := by decide +kernel
theorem dX11_tells_4 : decode cX11_tells 4 = .ok (.iload_n 1, 1) := by decide +kernel
theorem dX11_tells_5 : decode cX11_tells 5 = .ok (.iconst 3, 1) := by decide +kernel
theorem dX11_tells_6 : decode cX11_tells 6 = .ok (.if_icmp .gt 15, 3) := by decide +kernel
theorem dX11_tells_9 : decode cX11_tells 9 = .ok (.aload_n 0, 1) := by decide +kernel
theorem dX11_tells_10 : decode cX11_tells 10 = .ok (.getfield 41, 3) := by decide +kernel
theorem dX11_tells_13 : decode cX11_tells 13 = .ok (.iconst 2, 1) := by decide +kernel
theorem dX11_tells_14 : decode cX11_tells 14 = .ok (.invokevirtual 97, 3) := by decide +kernel
theorem dX11_tells_17 : decode cX11_tells 17 = .ok (.iconst (-1), 1) := by decide +kernel
theorem dX11_tells_18 : decode cX11_tells 18 = .ok (.if_icmp .eq 5, 3) := by decide +kernel
theorem dX11_tells_21 : decode cX11_tells 21 = .ok (.iconst (-1), 1) := by decide +kernel
theorem dX11_tells_22 : decode cX11_tells 22 = .ok (.ireturn, 1) := by decide +kernel
theorem dX11_tells_23 : decode cX11_tells 23 = .ok (.aload_n 0, 1) := by decide +kernel
theorem dX11_tells_24 : decode cX11_tells 24 = .ok (.getfield 41, 3) := by decide +kernel
theorem dX11_tells_27 : decode cX11_tells 27 = .ok (.iconst 0, 1) := by decide +kernel
theorem dX11_tells_28 : decode cX11_tells 28 = .ok (.putfield 86, 3) := by decide +kernel
theorem dX11_tells_31 : decode cX11_tells 31 = .ok (.aload_n 0, 1) := by decide +kernel
theorem dX11_tells_32 : decode cX11_tells 32 = .ok (.getfield 41, 3) := by decide +kernel
theorem dX11_tells_35 : decode cX11_tells 35 = .ok (.getfield 111, 3) := by decide +kernel
theorem dX11_tells_38 : decode cX11_tells 38 = .ok (.astore_n 2, 1) := by decide +kernel
theorem dX11_tells_39 : decode cX11_tells 39 = .ok (.iload_n 1, 1) := by decide +kernel
theorem dX11_tells_40 : decode cX11_tells 40 = .ok (.tableswitch 70 0 2 #[28, 33, 50], 28) := by decide +kernel
theorem dX11_tells_68 : decode cX11_tells 68 = .ok (.aload_n 2, 1) := by decide +kernel
theorem dX11_tells_69 : decode cX11_tells 69 = .ok (.getfield 162, 3) := by decide +kernel
theorem dX11_tells_72 : decode cX11_tells 72 = .ok (.ireturn, 1) := by decide +kernel
theorem dX11_tells_73 : decode cX11_tells 73 = .ok (.aload_n 0, 1) := by decide +kernel
theorem dX11_tells_74 : decode cX11_tells 74 = .ok (.getfield 66, 3) := by decide +kernel
theorem dX11_tells_77 : decode cX11_tells 77 = .ok (.aload_n 2, 1) := by decide +kernel
theorem dX11_tells_78 : decode cX11_tells 78 = .ok (.getfield 165, 3) := by decide +kernel
theorem dX11_tells_81 : decode cX11_tells 81 = .ok (.iconst 0, 1) := by decide +kernel
theorem dX11_tells_82 : decode cX11_tells 82 = .ok (.aload_n 2, 1) := by decide +kernel
theorem dX11_tells_83 : decode cX11_tells 83 = .ok (.getfield 162, 3) := by decide +kernel
theorem dX11_tells_86 : decode cX11_tells 86 = .ok (.invokevirtual 168, 3) := by decide +kernel
theorem dX11_tells_89 : decode cX11_tells 89 = .ok (.ireturn, 1) := by decide +kernel
theorem dX11_tells_90 : decode cX11_tells 90 = .ok (.aload_n 2, 1) := by decide +kernel
theorem dX11_tells_91 : decode cX11_tells 91 = .ok (.aload_n 0, 1) := by decide +kernel
theorem dX11_tells_92 : decode cX11_tells 92 = .ok (.getfield 41, 3) := by decide +kernel
theorem dX11_tells_95 : decode cX11_tells 95 = .ok (.getfield 115, 3) := by decide +kernel
theorem dX11_tells_98 : decode cX11_tells 98 = .ok (.invokevirtual 260, 3) := by decide +kernel
theorem dX11_tells_101 : decode cX11_tells 101 = .ok (.ifCond .eq 7, 3) := by decide +kernel
theorem dX11_tells_104 : decode cX11_tells 104 = .ok (.iconst 1, 1) := by decide +kernel
theorem dX11_tells_105 : decode cX11_tells 105 = .ok (.goto 4, 3) := by decide +kernel
theorem dX11_tells_108 : decode cX11_tells 108 = .ok (.iconst 0, 1) := by decide +kernel
theorem dX11_tells_109 : decode cX11_tells 109 = .ok (.ireturn, 1) := by decide +kernel
theorem dX11_tells_110 : decode cX11_tells 110 = .ok (.aload_n 2, 1) := by decide +kernel
theorem dX11_tells_111 : decode cX11_tells 111 = .ok (.invokevirtual 264, 3) := by decide +kernel
theorem dX11_tells_114 : decode cX11_tells 114 = .ok (.ireturn, 1) := by decide +kernel
theorem eX11_tells_0 : am_lim call mX11_tells 0 [l0, some (.int x), l2] (S) σ = am_lim call mX11_tells 1 [l0, some (.int x), l2] (.int x :: S) σ := r_iload_n dX11_tells_0 rfl
theorem eX11_tells_1 : am_lim call mX11_tells 1 [l0, l1, l2] (.int x :: S) σ = if x < 0 then am_lim call mX11_tells 21 [l0, l1, l2] (S) σ else am_lim call mX11_tells 4 [l0, l1, l2] (S) σ := r_ifB 21 dX11_tells_1 (by decide) rfl
theorem eX11_tells_4 : am_lim call mX11_tells 4 [l0, some (.int x), l2] (S) σ = am_lim call mX11_tells 5 [l0, some (.int x), l2] (.int x :: S) σ := r_iload_n dX11_tells_4 rfl
theorem eX11_tells_5 : am_lim call mX11_tells 5 [l0, l1, l2] (S) σ = am_lim call mX11_tells 6 [l0, l1, l2] (.int 3 :: S) σ := r_iconst dX11_tells_5 (by decide)
theorem eX11_tells_6 : am_lim call mX11_tells 6 [l0, l1, l2] (.int y :: .int x :: S) σ = if y < x then am_lim call mX11_tells 21 [l0, l1, l2] (S) σ else am_lim call mX11_tells 9 [l0, l1, l2] (S) σ := r_icmpB 21 dX11_tells_6 (by decide) rfl
theorem eX11_tells_9 : am_lim call mX11_tells 9 [some (.ref a), l1, l2] (S) σ = am_lim call mX11_tells 10 [some (.ref a), l1, l2] (.ref a :: S) σ := r_aload_n dX11_tells_9 rfl
theorem eX11_tells_10 (h : g_o σ a 11) : am_lim call mX11_tells 10 [l0, l1, l2] (.ref a :: S) σ = am_lim call mX11_tells 13 [l0, l1, l2] (va_rf (g_R σ a 0) :: S) σ := r_getR dX11_tells_10 f_11_41 rfl h
theorem eX11_tells_13 : am_lim call mX11_tells 13 [l0, l1, l2] (S) σ = am_lim call mX11_tells 14 [l0, l1, l2] (.int 2 :: S) σ := r_iconst dX11_tells_13 (by decide)
theorem eX11_tells_14 (h : g_o σ b 3) : am_lim call mX11_tells 14 [l0, l1, l2] (.int v0 :: .ref b :: []) σ = am_k (call mX3_readTypes [.ref b, .int v0] σ) (fun r σ1 => am_lim call mX11_tells 17 [l0, l1, l2] (r.toList ++ []) σ1) := r_kV (S1 := [.int v0]) dX11_tells_14 mt_11_97 rfl h (Nat.le_of_ble_eq_true rfl)
theorem eX11_tells_17 : am_lim call mX11_tells 17 [l0, l1, l2] (S) σ = am_lim call mX11_tells 18 [l0, l1, l2] (.int (-1) :: S) σ := r_iconst dX11_tells_17 (by decide)
theorem eX11_tells_18 : am_lim call mX11_tells 18 [l0, l1, l2] (.int y :: .int x :: S) σ = if x = y then am_lim call mX11_tells 23 [l0, l1, l2] (S) σ else am_lim call mX11_tells 21 [l0, l1, l2] (S) σ := r_icmpB 23 dX11_tells_18 (by decide) rfl
theorem eX11_tells_23 : am_lim call mX11_tells 23 [some (.ref a), l1, l2] (S) σ = am_lim call mX11_tells 24 [some (.ref a), l1, l2] (.ref a :: S) σ := r_aload_n dX11_tells_23 rfl
theorem eX11_tells_24 (h : g_o σ a 11) : am_lim call mX11_tells 24 [l0, l1, l2] (.ref a :: S) σ = am_lim call mX11_tells 27 [l0, l1, l2] (va_rf (g_R σ a 0) :: S) σ := r_getR dX11_tells_24 f_11_41 rfl h
theorem eX11_tells_27 : am_lim call mX11_tells 27 [l0, l1, l2] (S) σ = am_lim call mX11_tells 28 [l0, l1, l2] (.int 0 :: S) σ := r_iconst dX11_tells_27 (by decide)
theorem eX11_tells_28 (h : g_o σ a 3) : am_lim call mX11_tells 28 [l0, l1, l2] (.int x :: .ref a :: S) σ = am_lim call mX11_tells 31 [l0, l1, l2] (S) (am_sI σ a 0 x) := r_putI dX11_tells_28 f_11_86 rfl rfl h
theorem eX11_tells_31 : am_lim call mX11_tells 31 [some (.ref a), l1, l2] (S) σ = am_lim call mX11_tells 32 [some (.ref a), l1, l2] (.ref a :: S) σ := r_aload_n dX11_tells_31 rfl
theorem eX11_tells_32 (h : g_o σ a 11) : am_lim call mX11_tells 32 [l0, l1, l2] (.ref a :: S) σ = am_lim call mX11_tells 35 [l0, l1, l2] (va_rf (g_R σ a 0) :: S) σ := r_getR dX11_tells_32 f_11_41 rfl h
theorem eX11_tells_35 (h : g_o σ a 3) : am_lim call mX11_tells 35 [l0, l1, l2] (.ref a :: S) σ = am_lim call mX11_tells 38 [l0, l1, l2] (va_rf (g_R σ a 1) :: S) σ := r_getR dX11_tells_35 f_11_111 rfl h
theorem eX11_tells_38 : am_lim call mX11_tells 38 [l0, l1, l2] (.ref a :: S) σ = am_lim call mX11_tells 39 [l0, l1, some (.ref a)] (S) σ := r_astore_n dX11_tells_38 rfl rfl rfl rfl
theorem eX11_tells_39 : am_lim call mX11_tells 39 [l0, some (.int x), l2] (S) σ = am_lim call mX11_tells 40 [l0, some (.int x), l2] (.int x :: S) σ := r_iload_n dX11_tells_39 rfl
theorem eX11_tells_40_0 : am_lim call mX11_tells 40 [l0, l1, l2] (.int 0 :: S) σ = am_lim call mX11_tells 68 [l0, l1, l2] (S) σ := r_tsK (off := 28) 68 dX11_tells_40 (by decide) (by decide) (by decide)
theorem eX11_tells_40_1 : am_lim call mX11_tells 40 [l0, l1, l2] (.int 1 :: S) σ = am_lim call mX11_tells 73 [l0, l1, l2] (S) σ := r_tsK (off := 33) 73 dX11_tells_40 (by decide) (by decide) (by decide)
theorem eX11_tells_40_2 : am_lim call mX11_tells 40 [l0, l1, l2] (.int 2 :: S) σ = am_lim call mX11_tells 90 [l0, l1, l2] (S) σ := r_tsK (off := 50) 90 dX11_tells_40 (by decide) (by decide) (by decide)
theorem eX11_tells_40_d (h : x.toInt < 0 ∨ 2 < x.toInt) : am_lim call mX11_tells 40 [l0, l1, l2] (.int x :: S) σ = am_lim call mX11_tells 110 [l0, l1, l2] (S) σ := r_tsD 110 dX11_tells_40 h (by decide)
theorem eX11_tells_110 : am_lim call mX11_tells 110 [l0, l1, some (.ref a)] (S) σ = am_lim call mX11_tells 111 [l0, l1, some (.ref a)] (.ref a :: S) σ := r_aload_n dX11_tells_110 rfl
theorem eX11_tells_111 (h : g_o σ b 4) : am_lim call mX11_tells 111 [l0, l1, l2] (.ref b :: []) σ = am_k (call mX4_alls [.ref b] σ) (fun r σ1 => am_lim call mX11_tells 114 [l0, l1, l2] (r.toList ++ []) σ1) := r_kV (S1 := []) dX11_tells_111 mt_11_264 rfl h (Nat.le_of_ble_eq_true rfl)
theorem eX11_tells_114 : am_lim call mX11_tells 114 [l0, l1, l2] ([.int x]) σ = some (some (.int x), σ) := r_retI dX11_tells_114 rfl
theorem eX11_tells_90 : am_lim call mX11_tells 90 [l0, l1, some (.ref a)] (S) σ = am_lim call mX11_tells 91 [l0, l1, some (.ref a)] (.ref a :: S) σ := r_aload_n dX11_tells_90 rfl
theorem eX11_tells_91 : am_lim call mX11_tells 91 [some (.ref a), l1, l2] (S) σ = am_lim call mX11_tells 92 [some (.ref a), l1, l2] (.ref a :: S) σ := r_aload_n dX11_tells_91 rfl
theorem eX11_tells_92 (h : g_o σ a 11) : am_lim call mX11_tells 92 [l0, l1, l2] (.ref a :: S) σ = am_lim call mX11_tells 95 [l0, l1, l2] (va_rf (g_R σ a 0) :: S) σ := r_getR dX11_tells_92 f_11_41 rfl h
theorem eX11_tells_95 (h : g_o σ a 3) : am_lim call mX11_tells 95 [l0, l1, l2] (.ref a :: S) σ = am_lim call mX11_tells 98 [l0, l1, l2] (va_rf (g_R σ a 2) :: S) σ := r_getR dX11_tells_95 f_11_115 rfl h
theorem eX11_tells_98 (h : g_o σ b 4) : am_lim call mX11_tells 98 [l0, l1, l2] (.ref p0 :: .ref b :: []) σ = am_k (call mX4_same [.ref b, .ref p0] σ) (fun r σ1 => am_lim call mX11_tells 101 [l0, l1, l2] (r.toList ++ []) σ1) := r_kV (S1 := [.ref p0]) dX11_tells_98 mt_11_260 rfl h (Nat.le_of_ble_eq_true rfl)
theorem eX11_tells_101 : am_lim call mX11_tells 101 [l0, l1, l2] (.int x :: S) σ = if x = 0 then am_lim call mX11_tells 108 [l0, l1, l2] (S) σ else am_lim call mX11_tells 104 [l0, l1, l2] (S) σ := r_ifB 108 dX11_tells_101 (by decide) rfl
theorem eX11_tells_104 : am_lim call mX11_tells 104 [l0, l1, l2] (S) σ = am_lim call mX11_tells 105 [l0, l1, l2] (.int 1 :: S) σ := r_iconst dX11_tells_104 (by decide)
theorem eX11_tells_105 : am_lim call mX11_tells 105 [l0, l1, l2] (S) σ = am_lim call mX11_tells 109 [l0, l1, l2] (S) σ := r_goto 109 dX11_tells_105 (by decide)
theorem eX11_tells_109 : am_lim call mX11_tells 109 [l0, l1, l2] ([.int x]) σ = some (some (.int x), σ) := r_retI dX11_tells_109 rfl
theorem eX11_tells_108 : am_lim call mX11_tells 108 [l0, l1, l2] (S) σ = am_lim call mX11_tells 109 [l0, l1, l2] (.int 0 :: S) σ := r_iconst dX11_tells_108 (by decide)
theorem eX11_tells_73 : am_lim call mX11_tells 73 [some (.ref a), l1, l2] (S) σ = am_lim call mX11_tells 74 [some (.ref a), l1, l2] (.ref a :: S) σ := r_aload_n dX11_tells_73 rfl
theorem eX11_tells_74 (h : g_o σ a 11) : am_lim call mX11_tells 74 [l0, l1, l2] (.ref a :: S) σ = am_lim call mX11_tells 77 [l0, l1, l2] (va_rf (g_R σ a 4) :: S) σ := r_getR dX11_tells_74 f_11_66 rfl h
theorem eX11_tells_77 : am_lim call mX11_tells 77 [l0, l1, some (.ref a)] (S) σ = am_lim call mX11_tells 78 [l0, l1, some (.ref a)] (.ref a :: S) σ := r_aload_n dX11_tells_77 rfl
theorem eX11_tells_78 (h : g_o σ a 4) : am_lim call mX11_tells 78 [l0, l1, l2] (.ref a :: S) σ = am_lim call mX11_tells 81 [l0, l1, l2] (va_rf (g_R σ a 0) :: S) σ := r_getR dX11_tells_78 f_11_165 rfl h
theorem eX11_tells_81 : am_lim call mX11_tells 81 [l0, l1, l2] (S) σ = am_lim call mX11_tells 82 [l0, l1, l2] (.int 0 :: S) σ := r_iconst dX11_tells_81 (by decide)
theorem eX11_tells_82 : am_lim call mX11_tells 82 [l0, l1, some (.ref a)] (S) σ = am_lim call mX11_tells 83 [l0, l1, some (.ref a)] (.ref a :: S) σ := r_aload_n dX11_tells_82 rfl
theorem eX11_tells_83 (h : g_o σ a 4) : am_lim call mX11_tells 83 [l0, l1, l2] (.ref a :: S) σ = am_lim call mX11_tells 86 [l0, l1, l2] (.int (g_I σ a 1) :: S) σ := r_getI dX11_tells_83 f_11_162 rfl h
theorem eX11_tells_86 (h : g_o σ b 6) : am_lim call mX11_tells 86 [l0, l1, l2] (.int v2 :: .int v1 :: .ref p0 :: .ref b :: []) σ = am_k (call mX6_rank [.ref b, .ref p0, .int v1, .int v2] σ) (fun r σ1 => am_lim call mX11_tells 89 [l0, l1, l2] (r.toList ++ []) σ1) := r_kV (S1 := [.int v2, .int v1, .ref p0]) dX11_tells_86 mt_11_168 rfl h (Nat.le_of_ble_eq_true rfl)
theorem eX11_tells_89 : am_lim call mX11_tells 89 [l0, l1, l2] ([.int x]) σ = some (some (.int x), σ) := r_retI dX11_tells_89 rfl
theorem eX11_tells_68 : am_lim call mX11_tells 68 [l0, l1, some (.ref a)] (S) σ = am_lim call mX11_tells 69 [l0, l1, some (.ref a)] (.ref a :: S) σ := r_aload_n dX11_tells_68 rfl
theorem eX11_tells_69 (h : g_o σ a 4) : am_lim call mX11_tells 69 [l0, l1, l2] (.ref a :: S) σ = am_lim call mX11_tells 72 [l0, l1, l2] (.int (g_I σ a 1) :: S) σ := r_getI dX11_tells_69 f_11_162 rfl h
theorem eX11_tells_72 : am_lim call mX11_tells 72 [l0, l1, l2] ([.int x]) σ = some (some (.int x), σ) := r_retI dX11_tells_72 rfl
theorem eX11_tells_21 : am_lim call mX11_tells 21 [l0, l1, l2] (S) σ = am_lim call mX11_tells 22 [l0, l1, l2] (.int (-1) :: S) σ := r_iconst dX11_tells_21 (by decide)
theorem eX11_tells_22 : am_lim call mX11_tells 22 [l0, l1, l2] ([.int x]) σ = some (some (.int x), σ) := r_retI dX11_tells_22 rfl
theorem nX11_tells {d : Nat} : am_run (d + 1) mX11_tells [.ref b, .int v0] σ = am_lim (am_run d) mX11_tells 0 [some (.ref b), some (.int v0), none] [] σ := am_run_S rfl rfl rfl rfl
theorem dX12_tells_0 : decode cX12_tells 0 = .ok (.aload_n 0, 1) := by decide +kernel
theorem dX12_tells_1 : decode cX12_tells 1 = .ok (.iconst 0, 1) := by decide +kernel
theorem dX12_tells_2 : decode cX12_tells 2 = .ok (.putfield 113, 3) := by decide +kernel
theorem dX12_tells_5 : decode cX12_tells 5 = .ok (.iload_n 1, 1) := by decide +kernel
theorem dX12_tells_6 : decode cX12_tells 6 = .ok (.i2l, 1) := by decide +kernel
theorem dX12_tells_7 : decode cX12_tells 7 = .ok (.lconst 0, 1) := by decide +kernel
theorem dX12_tells_8 : decode cX12_tells 8 = .ok (.ldc2_w 521, 3) := by decide +kernel
theorem dX12_tells_11 : decode cX12_tells 11 = .ok (.invokestatic 199, 3) := by decide +kernel
theorem dX12_tells_14 : decode cX12_tells 14 = .ok (.ifCond .eq 12, 3) := by decide +kernel
theorem dX12_tells_17 : decode cX12_tells 17 = .ok (.aload_n 0, 1) := by decide +kernel
theorem dX12_tells_18 : decode cX12_tells 18 = .ok (.iconst 2, 1) := by decide +kernel
theorem dX12_tells_19 : decode cX12_tells 19 = .ok (.invokevirtual 203, 3) := by decide +kernel
theorem dX12_tells_22 : decode cX12_tells 22 = .ok (.iconst (-1), 1) := by decide +kernel
theorem dX12_tells_23 : decode cX12_tells 23 = .ok (.if_icmp .eq 5, 3) := by decide +kernel
theorem dX12_tells_26 : decode cX12_tells 26 = .ok (.iconst (-1), 1) := by decide +kernel
theorem dX12_tells_27 : decode cX12_tells 27 = .ok (.ireturn, 1) := by decide +kernel
theorem dX12_tells_28 : decode cX12_tells 28 = .ok (.aload_n 0, 1) := by decide +kernel
theorem dX12_tells_29 : decode cX12_tells 29 = .ok (.iconst 0, 1) := by decide +kernel
theorem dX12_tells_30 : decode cX12_tells 30 = .ok (.putfield 116, 3) := by decide +kernel
theorem dX12_tells_33 : decode cX12_tells 33 = .ok (.iload_n 1, 1) := by decide +kernel
theorem dX12_tells_34 : decode cX12_tells 34 = .ok (.iconst 2, 1) := by decide +kernel
theorem dX12_tells_35 : decode cX12_tells 35 = .ok (.if_icmp .ne 16, 3) := by decide +kernel
theorem dX12_tells_38 : decode cX12_tells 38 = .ok (.aload_n 0, 1) := by decide +kernel
theorem dX12_tells_39 : decode cX12_tells 39 = .ok (.invokevirtual 523, 3) := by decide +kernel
theorem dX12_tells_42 : decode cX12_tells 42 = .ok (.ifCond .eq 7, 3) := by decide +kernel
theorem dX12_tells_45 : decode cX12_tells 45 = .ok (.iconst 1, 1) := by decide +kernel
theorem dX12_tells_46 : decode cX12_tells 46 = .ok (.goto 4, 3) := by decide +kernel
theorem dX12_tells_49 : decode cX12_tells 49 = .ok (.iconst 0, 1) := by decide +kernel
theorem dX12_tells_50 : decode cX12_tells 50 = .ok (.ireturn, 1) := by decide +kernel
theorem dX12_tells_51 : decode cX12_tells 51 = .ok (.aload_n 0, 1) := by decide +kernel
theorem dX12_tells_52 : decode cX12_tells 52 = .ok (.iconst 0, 1) := by decide +kernel
theorem dX12_tells_53 : decode cX12_tells 53 = .ok (.iload_n 1, 1) := by decide +kernel
theorem dX12_tells_54 : decode cX12_tells 54 = .ok (.ifCond .ne 7, 3) := by decide +kernel
theorem dX12_tells_57 : decode cX12_tells 57 = .ok (.iconst 1, 1) := by decide +kernel
theorem dX12_tells_58 : decode cX12_tells 58 = .ok (.goto 13, 3) := by decide +kernel
theorem dX12_tells_61 : decode cX12_tells 61 = .ok (.iload_n 1, 1) := by decide +kernel
theorem dX12_tells_62 : decode cX12_tells 62 = .ok (.iconst 1, 1) := by decide +kernel
theorem dX12_tells_63 : decode cX12_tells 63 = .ok (.if_icmp .ne 7, 3) := by decide +kernel
theorem dX12_tells_66 : decode cX12_tells 66 = .ok (.iconst 2, 1) := by decide +kernel
theorem dX12_tells_67 : decode cX12_tells 67 = .ok (.goto 4, 3) := by decide +kernel
theorem dX12_tells_70 : decode cX12_tells 70 = .ok (.iconst 3, 1) := by decide +kernel
theorem dX12_tells_71 : decode cX12_tells 71 = .ok (.invokevirtual 509, 3) := by decide +kernel
theorem dX12_tells_74 : decode cX12_tells 74 = .ok (.ireturn, 1) := by decide +kernel
theorem eX12_tells_0 : am_lim call mX12_tells 0 [some (.ref a), l1] (S) σ = am_lim call mX12_tells 1 [some (.ref a), l1] (.ref a :: S) σ := r_aload_n dX12_tells_0 rfl
theorem eX12_tells_1 : am_lim call mX12_tells 1 [l0, l1] (S) σ = am_lim call mX12_tells 2 [l0, l1] (.int 0 :: S) σ := r_iconst dX12_tells_1 (by decide)
theorem eX12_tells_2 (h : g_o σ a 12) : am_lim call mX12_tells 2 [l0, l1] (.int x :: .ref a :: S) σ = am_lim call mX12_tells 5 [l0, l1] (S) (am_sI σ a 0 x) := r_putI dX12_tells_2 f_12_113 rfl rfl h
theorem eX12_tells_5 : am_lim call mX12_tells 5 [l0, some (.int x)] (S) σ = am_lim call mX12_tells 6 [l0, some (.int x)] (.int x :: S) σ := r_iload_n dX12_tells_5 rfl
theorem eX12_tells_6 : am_lim call mX12_tells 6 [l0, l1] (.int x :: S) σ = am_lim call mX12_tells 7 [l0, l1] (.long x.toInt64 :: S) σ := r_i2l dX12_tells_6
theorem eX12_tells_7 : am_lim call mX12_tells 7 [l0, l1] (S) σ = am_lim call mX12_tells 8 [l0, l1] (.long 0 :: S) σ := r_lconst dX12_tells_7 (by decide)
theorem eX12_tells_8 : am_lim call mX12_tells 8 [l0, l1] (S) σ = am_lim call mX12_tells 11 [l0, l1] (.long 3 :: S) σ := r_ldc2 dX12_tells_8 (by decide +kernel)
theorem eX12_tells_11 : am_lim call mX12_tells 11 [l0, l1] (.long w2 :: .long w1 :: .long w0 :: []) σ = am_k (call mX12_isIn [.long w0, .long w1, .long w2] σ) (fun r σ1 => am_lim call mX12_tells 14 [l0, l1] (r.toList ++ []) σ1) := r_kS (S1 := [.long w2, .long w1, .long w0]) dX12_tells_11 ⟨rfl, rfl, rfl⟩ mt_12_199 rfl (Nat.le_of_ble_eq_true rfl)
theorem eX12_tells_14 : am_lim call mX12_tells 14 [l0, l1] (.int x :: S) σ = if x = 0 then am_lim call mX12_tells 26 [l0, l1] (S) σ else am_lim call mX12_tells 17 [l0, l1] (S) σ := r_ifB 26 dX12_tells_14 (by decide) rfl
theorem eX12_tells_17 : am_lim call mX12_tells 17 [some (.ref a), l1] (S) σ = am_lim call mX12_tells 18 [some (.ref a), l1] (.ref a :: S) σ := r_aload_n dX12_tells_17 rfl
theorem eX12_tells_18 : am_lim call mX12_tells 18 [l0, l1] (S) σ = am_lim call mX12_tells 19 [l0, l1] (.int 2 :: S) σ := r_iconst dX12_tells_18 (by decide)
theorem eX12_tells_19 (h : g_o σ b 12) : am_lim call mX12_tells 19 [l0, l1] (.int v0 :: .ref b :: []) σ = am_k (call mX12_readsTypes [.ref b, .int v0] σ) (fun r σ1 => am_lim call mX12_tells 22 [l0, l1] (r.toList ++ []) σ1) := r_kV (S1 := [.int v0]) dX12_tells_19 mt_12_203 rfl h (Nat.le_of_ble_eq_true rfl)
theorem eX12_tells_22 : am_lim call mX12_tells 22 [l0, l1] (S) σ = am_lim call mX12_tells 23 [l0, l1] (.int (-1) :: S) σ := r_iconst dX12_tells_22 (by decide)
theorem eX12_tells_23 : am_lim call mX12_tells 23 [l0, l1] (.int y :: .int x :: S) σ = if x = y then am_lim call mX12_tells 28 [l0, l1] (S) σ else am_lim call mX12_tells 26 [l0, l1] (S) σ := r_icmpB 28 dX12_tells_23 (by decide) rfl
theorem eX12_tells_28 : am_lim call mX12_tells 28 [some (.ref a), l1] (S) σ = am_lim call mX12_tells 29 [some (.ref a), l1] (.ref a :: S) σ := r_aload_n dX12_tells_28 rfl
theorem eX12_tells_29 : am_lim call mX12_tells 29 [l0, l1] (S) σ = am_lim call mX12_tells 30 [l0, l1] (.int 0 :: S) σ := r_iconst dX12_tells_29 (by decide)
theorem eX12_tells_30 (h : g_o σ a 12) : am_lim call mX12_tells 30 [l0, l1] (.int x :: .ref a :: S) σ = am_lim call mX12_tells 33 [l0, l1] (S) (am_sI σ a 2 x) := r_putI dX12_tells_30 f_12_116 rfl rfl h
theorem eX12_tells_33 : am_lim call mX12_tells 33 [l0, some (.int x)] (S) σ = am_lim call mX12_tells 34 [l0, some (.int x)] (.int x :: S) σ := r_iload_n dX12_tells_33 rfl
theorem eX12_tells_34 : am_lim call mX12_tells 34 [l0, l1] (S) σ = am_lim call mX12_tells 35 [l0, l1] (.int 2 :: S) σ := r_iconst dX12_tells_34 (by decide)
theorem eX12_tells_35 : am_lim call mX12_tells 35 [l0, l1] (.int y :: .int x :: S) σ = if x ≠ y then am_lim call mX12_tells 51 [l0, l1] (S) σ else am_lim call mX12_tells 38 [l0, l1] (S) σ := r_icmpB 51 dX12_tells_35 (by decide) rfl
theorem eX12_tells_38 : am_lim call mX12_tells 38 [some (.ref a), l1] (S) σ = am_lim call mX12_tells 39 [some (.ref a), l1] (.ref a :: S) σ := r_aload_n dX12_tells_38 rfl
theorem eX12_tells_39 (h : g_o σ b 12) : am_lim call mX12_tells 39 [l0, l1] (.ref b :: []) σ = am_k (call mX12_areAlike [.ref b] σ) (fun r σ1 => am_lim call mX12_tells 42 [l0, l1] (r.toList ++ []) σ1) := r_kV (S1 := []) dX12_tells_39 mt_12_523 rfl h (Nat.le_of_ble_eq_true rfl)
theorem eX12_tells_42 : am_lim call mX12_tells 42 [l0, l1] (.int x :: S) σ = if x = 0 then am_lim call mX12_tells 49 [l0, l1] (S) σ else am_lim call mX12_tells 45 [l0, l1] (S) σ := r_ifB 49 dX12_tells_42 (by decide) rfl
theorem eX12_tells_45 : am_lim call mX12_tells 45 [l0, l1] (S) σ = am_lim call mX12_tells 46 [l0, l1] (.int 1 :: S) σ := r_iconst dX12_tells_45 (by decide)
theorem eX12_tells_46 : am_lim call mX12_tells 46 [l0, l1] (S) σ = am_lim call mX12_tells 50 [l0, l1] (S) σ := r_goto 50 dX12_tells_46 (by decide)
theorem eX12_tells_50 : am_lim call mX12_tells 50 [l0, l1] ([.int x]) σ = some (some (.int x), σ) := r_retI dX12_tells_50 rfl
theorem eX12_tells_49 : am_lim call mX12_tells 49 [l0, l1] (S) σ = am_lim call mX12_tells 50 [l0, l1] (.int 0 :: S) σ := r_iconst dX12_tells_49 (by decide)
theorem eX12_tells_51 : am_lim call mX12_tells 51 [some (.ref a), l1] (S) σ = am_lim call mX12_tells 52 [some (.ref a), l1] (.ref a :: S) σ := r_aload_n dX12_tells_51 rfl
theorem eX12_tells_52 : am_lim call mX12_tells 52 [l0, l1] (S) σ = am_lim call mX12_tells 53 [l0, l1] (.int 0 :: S) σ := r_iconst dX12_tells_52 (by decide)
theorem eX12_tells_53 : am_lim call mX12_tells 53 [l0, some (.int x)] (S) σ = am_lim call mX12_tells 54 [l0, some (.int x)] (.int x :: S) σ := r_iload_n dX12_tells_53 rfl
theorem eX12_tells_54 : am_lim call mX12_tells 54 [l0, l1] (.int x :: S) σ = if x ≠ 0 then am_lim call mX12_tells 61 [l0, l1] (S) σ else am_lim call mX12_tells 57 [l0, l1] (S) σ := r_ifB 61 dX12_tells_54 (by decide) rfl
theorem eX12_tells_57 : am_lim call mX12_tells 57 [l0, l1] (S) σ = am_lim call mX12_tells 58 [l0, l1] (.int 1 :: S) σ := r_iconst dX12_tells_57 (by decide)
theorem eX12_tells_58 : am_lim call mX12_tells 58 [l0, l1] (S) σ = am_lim call mX12_tells 71 [l0, l1] (S) σ := r_goto 71 dX12_tells_58 (by decide)
theorem eX12_tells_71 (h : g_o σ b 12) : am_lim call mX12_tells 71 [l0, l1] (.int v1 :: .int v0 :: .ref b :: []) σ = am_k (call mX12_tellsOf [.ref b, .int v0, .int v1] σ) (fun r σ1 => am_lim call mX12_tells 74 [l0, l1] (r.toList ++ []) σ1) := r_kV (S1 := [.int v1, .int v0]) dX12_tells_71 mt_12_509 rfl h (Nat.le_of_ble_eq_true rfl)
theorem eX12_tells_74 : am_lim call mX12_tells 74 [l0, l1] ([.int x]) σ = some (some (.int x), σ) := r_retI dX12_tells_74 rfl
theorem eX12_tells_61 : am_lim call mX12_tells 61 [l0, some (.int x)] (S) σ = am_lim call mX12_tells 62 [l0, some (.int x)] (.int x :: S) σ := r_iload_n dX12_tells_61 rfl
theorem eX12_tells_62 : am_lim call mX12_tells 62 [l0, l1] (S) σ = am_lim call mX12_tells 63 [l0, l1] (.int 1 :: S) σ := r_iconst dX12_tells_62 (by decide)
theorem eX12_tells_63 : am_lim call mX12_tells 63 [l0, l1] (.int y :: .int x :: S) σ = if x ≠ y then am_lim call mX12_tells 70 [l0, l1] (S) σ else am_lim call mX12_tells 66 [l0, l1] (S) σ := r_icmpB 70 dX12_tells_63 (by decide) rfl
theorem eX12_tells_66 : am_lim call mX12_tells 66 [l0, l1] (S) σ = am_lim call mX12_tells 67 [l0, l1] (.int 2 :: S) σ := r_iconst dX12_tells_66 (by decide)
theorem eX12_tells_67 : am_lim call mX12_tells 67 [l0, l1] (S) σ = am_lim call mX12_tells 71 [l0, l1] (S) σ := r_goto 71 dX12_tells_67 (by decide)
theorem eX12_tells_70 : am_lim call mX12_tells 70 [l0, l1] (S) σ = am_lim call mX12_tells 71 [l0, l1] (.int 3 :: S) σ := r_iconst dX12_tells_70 (by decide)
theorem eX12_tells_26 : am_lim call mX12_tells 26 [l0, l1] (S) σ = am_lim call mX12_tells 27 [l0, l1] (.int (-1) :: S) σ := r_iconst dX12_tells_26 (by decide)
theorem eX12_tells_27 : am_lim call mX12_tells 27 [l0, l1] ([.int x]) σ = some (some (.int x), σ) := r_retI dX12_tells_27 rfl
theorem nX12_tells {d : Nat} : am_run (d + 1) mX12_tells [.ref b, .int v0] σ = am_lim (am_run d) mX12_tells 0 [some (.ref b), some (.int v0)] [] σ := am_run_S rfl rfl rfl rfl
theorem dX11_fault_0 : decode cX11_fault 0 = .ok (.iload_n 1, 1) := by decide +kernel
theorem dX11_fault_1 : decode cX11_fault 1 = .ok (.ifCond .ne 15, 3) := by decide +kernel
theorem dX11_fault_4 : decode cX11_fault 4 = .ok (.aload_n 0, 1) := by decide +kernel
theorem dX11_fault_5 : decode cX11_fault 5 = .ok (.getfield 41, 3) := by decide +kernel
theorem dX11_fault_8 : decode cX11_fault 8 = .ok (.aload_n 0, 1) := by decide +kernel
theorem dX11_fault_9 : decode cX11_fault 9 = .ok (.getfield 16, 3) := by decide +kernel
theorem dX11_fault_12 : decode cX11_fault 12 = .ok (.invokevirtual 93, 3) := by decide +kernel
theorem dX11_fault_15 : decode cX11_fault 15 = .ok (.ireturn, 1) := by decide +kernel
theorem dX11_fault_16 : decode cX11_fault 16 = .ok (.iload_n 1, 1) := by decide +kernel
theorem dX11_fault_17 : decode cX11_fault 17 = .ok (.iconst 1, 1) := by decide +kernel
theorem dX11_fault_18 : decode cX11_fault 18 = .ok (.if_icmp .eq 8, 3) := by decide +kernel
theorem dX11_fault_21 : decode cX11_fault 21 = .ok (.iload_n 1, 1) := by decide +kernel
theorem dX11_fault_22 : decode cX11_fault 22 = .ok (.iconst 2, 1) := by decide +kernel
theorem dX11_fault_23 : decode cX11_fault 23 = .ok (.if_icmp .ne 14, 3) := by decide +kernel
theorem dX11_fault_26 : decode cX11_fault 26 = .ok (.aload_n 0, 1) := by decide +kernel
theorem dX11_fault_27 : decode cX11_fault 27 = .ok (.getfield 41, 3) := by decide +kernel
theorem dX11_fault_30 : decode cX11_fault 30 = .ok (.iload_n 1, 1) := by decide +kernel
theorem dX11_fault_31 : decode cX11_fault 31 = .ok (.invokevirtual 97, 3) := by decide +kernel
theorem dX11_fault_34 : decode cX11_fault 34 = .ok (.goto 5, 3) := by decide +kernel
theorem dX11_fault_37 : decode cX11_fault 37 = .ok (.bipush (-2), 2) := by decide +kernel
theorem dX11_fault_39 : decode cX11_fault 39 = .ok (.ireturn, 1) := by decide +kernel
theorem eX11_fault_0 : am_lim call mX11_fault 0 [l0, some (.int x)] (S) σ = am_lim call mX11_fault 1 [l0, some (.int x)] (.int x :: S) σ := r_iload_n dX11_fault_0 rfl
theorem eX11_fault_1 : am_lim call mX11_fault 1 [l0, l1] (.int x :: S) σ = if x ≠ 0 then am_lim call mX11_fault 16 [l0, l1] (S) σ else am_lim call mX11_fault 4 [l0, l1] (S) σ := r_ifB 16 dX11_fault_1 (by decide) rfl
theorem eX11_fault_4 : am_lim call mX11_fault 4 [some (.ref a), l1] (S) σ = am_lim call mX11_fault 5 [some (.ref a), l1] (.ref a :: S) σ := r_aload_n dX11_fault_4 rfl
theorem eX11_fault_5 (h : g_o σ a 11) : am_lim call mX11_fault 5 [l0, l1] (.ref a :: S) σ = am_lim call mX11_fault 8 [l0, l1] (va_rf (g_R σ a 0) :: S) σ := r_getR dX11_fault_5 f_11_41 rfl h
theorem eX11_fault_8 : am_lim call mX11_fault 8 [some (.ref a), l1] (S) σ = am_lim call mX11_fault 9 [some (.ref a), l1] (.ref a :: S) σ := r_aload_n dX11_fault_8 rfl
theorem eX11_fault_9 (h : g_o σ a 11) : am_lim call mX11_fault 9 [l0, l1] (.ref a :: S) σ = am_lim call mX11_fault 12 [l0, l1] (va_rf (g_R σ a 8) :: S) σ := r_getR dX11_fault_9 f_11_16 rfl h
theorem eX11_fault_12 (h : g_o σ b 3) : am_lim call mX11_fault 12 [l0, l1] (.ref p0 :: .ref b :: []) σ = am_k (call mX3_readTerm [.ref b, .ref p0] σ) (fun r σ1 => am_lim call mX11_fault 15 [l0, l1] (r.toList ++ []) σ1) := r_kV (S1 := [.ref p0]) dX11_fault_12 mt_11_93 rfl h (Nat.le_of_ble_eq_true rfl)
theorem eX11_fault_15 : am_lim call mX11_fault 15 [l0, l1] ([.int x]) σ = some (some (.int x), σ) := r_retI dX11_fault_15 rfl
theorem eX11_fault_16 : am_lim call mX11_fault 16 [l0, some (.int x)] (S) σ = am_lim call mX11_fault 17 [l0, some (.int x)] (.int x :: S) σ := r_iload_n dX11_fault_16 rfl
theorem eX11_fault_17 : am_lim call mX11_fault 17 [l0, l1] (S) σ = am_lim call mX11_fault 18 [l0, l1] (.int 1 :: S) σ := r_iconst dX11_fault_17 (by decide)
theorem eX11_fault_18 : am_lim call mX11_fault 18 [l0, l1] (.int y :: .int x :: S) σ = if x = y then am_lim call mX11_fault 26 [l0, l1] (S) σ else am_lim call mX11_fault 21 [l0, l1] (S) σ := r_icmpB 26 dX11_fault_18 (by decide) rfl
theorem eX11_fault_21 : am_lim call mX11_fault 21 [l0, some (.int x)] (S) σ = am_lim call mX11_fault 22 [l0, some (.int x)] (.int x :: S) σ := r_iload_n dX11_fault_21 rfl
theorem eX11_fault_22 : am_lim call mX11_fault 22 [l0, l1] (S) σ = am_lim call mX11_fault 23 [l0, l1] (.int 2 :: S) σ := r_iconst dX11_fault_22 (by decide)
theorem eX11_fault_23 : am_lim call mX11_fault 23 [l0, l1] (.int y :: .int x :: S) σ = if x ≠ y then am_lim call mX11_fault 37 [l0, l1] (S) σ else am_lim call mX11_fault 26 [l0, l1] (S) σ := r_icmpB 37 dX11_fault_23 (by decide) rfl
theorem eX11_fault_37 : am_lim call mX11_fault 37 [l0, l1] (S) σ = am_lim call mX11_fault 39 [l0, l1] (.int (-2) :: S) σ := r_bipush dX11_fault_37 (by decide)
theorem eX11_fault_39 : am_lim call mX11_fault 39 [l0, l1] ([.int x]) σ = some (some (.int x), σ) := r_retI dX11_fault_39 rfl
theorem eX11_fault_26 : am_lim call mX11_fault 26 [some (.ref a), l1] (S) σ = am_lim call mX11_fault 27 [some (.ref a), l1] (.ref a :: S) σ := r_aload_n dX11_fault_26 rfl
theorem eX11_fault_27 (h : g_o σ a 11) : am_lim call mX11_fault 27 [l0, l1] (.ref a :: S) σ = am_lim call mX11_fault 30 [l0, l1] (va_rf (g_R σ a 0) :: S) σ := r_getR dX11_fault_27 f_11_41 rfl h
theorem eX11_fault_30 : am_lim call mX11_fault 30 [l0, some (.int x)] (S) σ = am_lim call mX11_fault 31 [l0, some (.int x)] (.int x :: S) σ := r_iload_n dX11_fault_30 rfl
theorem eX11_fault_31 (h : g_o σ b 3) : am_lim call mX11_fault 31 [l0, l1] (.int v0 :: .ref b :: []) σ = am_k (call mX3_readTypes [.ref b, .int v0] σ) (fun r σ1 => am_lim call mX11_fault 34 [l0, l1] (r.toList ++ []) σ1) := r_kV (S1 := [.int v0]) dX11_fault_31 mt_11_97 rfl h (Nat.le_of_ble_eq_true rfl)
theorem eX11_fault_34 : am_lim call mX11_fault 34 [l0, l1] (S) σ = am_lim call mX11_fault 39 [l0, l1] (S) σ := r_goto 39 dX11_fault_34 (by decide)
theorem nX11_fault {d : Nat} : am_run (d + 1) mX11_fault [.ref b, .int v0] σ = am_lim (am_run d) mX11_fault 0 [some (.ref b), some (.int v0)] [] σ := am_run_S rfl rfl rfl rfl
theorem dX12_fault_0 : decode cX12_fault 0 = .ok (.aload_n 0, 1) := by decide +kernel
theorem dX12_fault_1 : decode cX12_fault 1 = .ok (.iconst 0, 1) := by decide +kernel
theorem dX12_fault_2 : decode cX12_fault 2 = .ok (.putfield 113, 3) := by decide +kernel
theorem dX12_fault_5 : decode cX12_fault 5 = .ok (.iload_n 1, 1) := by decide +kernel
theorem dX12_fault_6 : decode cX12_fault 6 = .ok (.ifCond .ne 10, 3) := by decide +kernel
theorem dX12_fault_9 : decode cX12_fault 9 = .ok (.aload_n 0, 1) := by decide +kernel
theorem dX12_fault_10 : decode cX12_fault 10 = .ok (.invokevirtual 194, 3) := by decide +kernel
theorem dX12_fault_13 : decode cX12_fault 13 = .ok (.goto 25, 3) := by decide +kernel
theorem dX12_fault_16 : decode cX12_fault 16 = .ok (.iload_n 1, 1) := by decide +kernel
theorem dX12_fault_17 : decode cX12_fault 17 = .ok (.i2l, 1) := by decide +kernel
theorem dX12_fault_18 : decode cX12_fault 18 = .ok (.lconst 1, 1) := by decide +kernel
theorem dX12_fault_19 : decode cX12_fault 19 = .ok (.ldc2_w 197, 3) := by decide +kernel
theorem dX12_fault_22 : decode cX12_fault 22 = .ok (.invokestatic 199, 3) := by decide +kernel
theorem dX12_fault_25 : decode cX12_fault 25 = .ok (.ifCond .eq 11, 3) := by decide +kernel
theorem dX12_fault_28 : decode cX12_fault 28 = .ok (.aload_n 0, 1) := by decide +kernel
theorem dX12_fault_29 : decode cX12_fault 29 = .ok (.iload_n 1, 1) := by decide +kernel
theorem dX12_fault_30 : decode cX12_fault 30 = .ok (.invokevirtual 203, 3) := by decide +kernel
theorem dX12_fault_33 : decode cX12_fault 33 = .ok (.goto 5, 3) := by decide +kernel
theorem dX12_fault_36 : decode cX12_fault 36 = .ok (.bipush (-2), 2) := by decide +kernel
theorem dX12_fault_38 : decode cX12_fault 38 = .ok (.ireturn, 1) := by decide +kernel
theorem eX12_fault_0 : am_lim call mX12_fault 0 [some (.ref a), l1] (S) σ = am_lim call mX12_fault 1 [some (.ref a), l1] (.ref a :: S) σ := r_aload_n dX12_fault_0 rfl
theorem eX12_fault_1 : am_lim call mX12_fault 1 [l0, l1] (S) σ = am_lim call mX12_fault 2 [l0, l1] (.int 0 :: S) σ := r_iconst dX12_fault_1 (by decide)
theorem eX12_fault_2 (h : g_o σ a 12) : am_lim call mX12_fault 2 [l0, l1] (.int x :: .ref a :: S) σ = am_lim call mX12_fault 5 [l0, l1] (S) (am_sI σ a 0 x) := r_putI dX12_fault_2 f_12_113 rfl rfl h
theorem eX12_fault_5 : am_lim call mX12_fault 5 [l0, some (.int x)] (S) σ = am_lim call mX12_fault 6 [l0, some (.int x)] (.int x :: S) σ := r_iload_n dX12_fault_5 rfl
theorem eX12_fault_6 : am_lim call mX12_fault 6 [l0, l1] (.int x :: S) σ = if x ≠ 0 then am_lim call mX12_fault 16 [l0, l1] (S) σ else am_lim call mX12_fault 9 [l0, l1] (S) σ := r_ifB 16 dX12_fault_6 (by decide) rfl
theorem eX12_fault_9 : am_lim call mX12_fault 9 [some (.ref a), l1] (S) σ = am_lim call mX12_fault 10 [some (.ref a), l1] (.ref a :: S) σ := r_aload_n dX12_fault_9 rfl
theorem eX12_fault_10 (h : g_o σ b 12) : am_lim call mX12_fault 10 [l0, l1] (.ref b :: []) σ = am_k (call mX12_readsWhole [.ref b] σ) (fun r σ1 => am_lim call mX12_fault 13 [l0, l1] (r.toList ++ []) σ1) := r_kV (S1 := []) dX12_fault_10 mt_12_194 rfl h (Nat.le_of_ble_eq_true rfl)
theorem eX12_fault_13 : am_lim call mX12_fault 13 [l0, l1] (S) σ = am_lim call mX12_fault 38 [l0, l1] (S) σ := r_goto 38 dX12_fault_13 (by decide)
theorem eX12_fault_38 : am_lim call mX12_fault 38 [l0, l1] ([.int x]) σ = some (some (.int x), σ) := r_retI dX12_fault_38 rfl
theorem eX12_fault_16 : am_lim call mX12_fault 16 [l0, some (.int x)] (S) σ = am_lim call mX12_fault 17 [l0, some (.int x)] (.int x :: S) σ := r_iload_n dX12_fault_16 rfl
theorem eX12_fault_17 : am_lim call mX12_fault 17 [l0, l1] (.int x :: S) σ = am_lim call mX12_fault 18 [l0, l1] (.long x.toInt64 :: S) σ := r_i2l dX12_fault_17
theorem eX12_fault_18 : am_lim call mX12_fault 18 [l0, l1] (S) σ = am_lim call mX12_fault 19 [l0, l1] (.long 1 :: S) σ := r_lconst dX12_fault_18 (by decide)
theorem eX12_fault_19 : am_lim call mX12_fault 19 [l0, l1] (S) σ = am_lim call mX12_fault 22 [l0, l1] (.long 2 :: S) σ := r_ldc2 dX12_fault_19 (by decide +kernel)
theorem eX12_fault_22 : am_lim call mX12_fault 22 [l0, l1] (.long w2 :: .long w1 :: .long w0 :: []) σ = am_k (call mX12_isIn [.long w0, .long w1, .long w2] σ) (fun r σ1 => am_lim call mX12_fault 25 [l0, l1] (r.toList ++ []) σ1) := r_kS (S1 := [.long w2, .long w1, .long w0]) dX12_fault_22 ⟨rfl, rfl, rfl⟩ mt_12_199 rfl (Nat.le_of_ble_eq_true rfl)
theorem eX12_fault_25 : am_lim call mX12_fault 25 [l0, l1] (.int x :: S) σ = if x = 0 then am_lim call mX12_fault 36 [l0, l1] (S) σ else am_lim call mX12_fault 28 [l0, l1] (S) σ := r_ifB 36 dX12_fault_25 (by decide) rfl
theorem eX12_fault_28 : am_lim call mX12_fault 28 [some (.ref a), l1] (S) σ = am_lim call mX12_fault 29 [some (.ref a), l1] (.ref a :: S) σ := r_aload_n dX12_fault_28 rfl
theorem eX12_fault_29 : am_lim call mX12_fault 29 [l0, some (.int x)] (S) σ = am_lim call mX12_fault 30 [l0, some (.int x)] (.int x :: S) σ := r_iload_n dX12_fault_29 rfl
theorem eX12_fault_30 (h : g_o σ b 12) : am_lim call mX12_fault 30 [l0, l1] (.int v0 :: .ref b :: []) σ = am_k (call mX12_readsTypes [.ref b, .int v0] σ) (fun r σ1 => am_lim call mX12_fault 33 [l0, l1] (r.toList ++ []) σ1) := r_kV (S1 := [.int v0]) dX12_fault_30 mt_12_203 rfl h (Nat.le_of_ble_eq_true rfl)
theorem eX12_fault_33 : am_lim call mX12_fault 33 [l0, l1] (S) σ = am_lim call mX12_fault 38 [l0, l1] (S) σ := r_goto 38 dX12_fault_33 (by decide)
theorem eX12_fault_36 : am_lim call mX12_fault 36 [l0, l1] (S) σ = am_lim call mX12_fault 38 [l0, l1] (.int (-2) :: S) σ := r_bipush dX12_fault_36 (by decide)
theorem nX12_fault {d : Nat} : am_run (d + 1) mX12_fault [.ref b, .int v0] σ = am_lim (am_run d) mX12_fault 0 [some (.ref b), some (.int v0)] [] σ := am_run_S rfl rfl rfl rfl
theorem dX11_count_0 : decode cX11_count 0 = .ok (.iload_n 1, 1) := by decide +kernel
theorem dX11_count_1 : decode cX11_count 1 = .ok (.tableswitch 104 0 6 #[43, 51, 59, 64, 71, 78, 85], 43) := by decide +kernel
theorem dX11_count_44 : decode cX11_count 44 = .ok (.aload_n 0, 1) := by decide +kernel
theorem dX11_count_45 : decode cX11_count 45 = .ok (.getfield 41, 3) := by decide +kernel
theorem dX11_count_48 : decode cX11_count 48 = .ok (.getfield 86, 3) := by decide +kernel
theorem dX11_count_51 : decode cX11_count 51 = .ok (.ireturn, 1) := by decide +kernel
theorem dX11_count_52 : decode cX11_count 52 = .ok (.aload_n 0, 1) := by decide +kernel
theorem dX11_count_53 : decode cX11_count 53 = .ok (.getfield 22, 3) := by decide +kernel
theorem dX11_count_56 : decode cX11_count 56 = .ok (.getfield 214, 3) := by decide +kernel
theorem dX11_count_59 : decode cX11_count 59 = .ok (.ireturn, 1) := by decide +kernel
theorem dX11_count_60 : decode cX11_count 60 = .ok (.aload_n 0, 1) := by decide +kernel
theorem dX11_count_61 : decode cX11_count 61 = .ok (.getfield 74, 3) := by decide +kernel
theorem dX11_count_64 : decode cX11_count 64 = .ok (.ireturn, 1) := by decide +kernel
theorem dX11_count_65 : decode cX11_count 65 = .ok (.aload_n 0, 1) := by decide +kernel
theorem dX11_count_66 : decode cX11_count 66 = .ok (.getfield 78, 3) := by decide +kernel
theorem dX11_count_69 : decode cX11_count 69 = .ok (.iconst 0, 1) := by decide +kernel
theorem dX11_count_70 : decode cX11_count 70 = .ok (.iaload, 1) := by decide +kernel
theorem dX11_count_71 : decode cX11_count 71 = .ok (.ireturn, 1) := by decide +kernel
theorem dX11_count_72 : decode cX11_count 72 = .ok (.aload_n 0, 1) := by decide +kernel
theorem dX11_count_73 : decode cX11_count 73 = .ok (.getfield 78, 3) := by decide +kernel
theorem dX11_count_76 : decode cX11_count 76 = .ok (.iconst 1, 1) := by decide +kernel
theorem dX11_count_77 : decode cX11_count 77 = .ok (.iaload, 1) := by decide +kernel
theorem dX11_count_78 : decode cX11_count 78 = .ok (.ireturn, 1) := by decide +kernel
theorem dX11_count_79 : decode cX11_count 79 = .ok (.aload_n 0, 1) := by decide +kernel
theorem dX11_count_80 : decode cX11_count 80 = .ok (.getfield 78, 3) := by decide +kernel
theorem dX11_count_83 : decode cX11_count 83 = .ok (.iconst 2, 1) := by decide +kernel
theorem dX11_count_84 : decode cX11_count 84 = .ok (.iaload, 1) := by decide +kernel
theorem dX11_count_85 : decode cX11_count 85 = .ok (.ireturn, 1) := by decide +kernel
theorem dX11_count_86 : decode cX11_count 86 = .ok (.aload_n 0, 1) := by decide +kernel
theorem dX11_count_87 : decode cX11_count 87 = .ok (.getfield 70, 3) := by decide +kernel
theorem dX11_count_90 : decode cX11_count 90 = .ok (.ifCond .eq 13, 3) := by decide +kernel
theorem dX11_count_93 : decode cX11_count 93 = .ok (.aload_n 0, 1) := by decide +kernel
theorem dX11_count_94 : decode cX11_count 94 = .ok (.getfield 10, 3) := by decide +kernel
theorem dX11_count_97 : decode cX11_count 97 = .ok (.getfield 231, 3) := by decide +kernel
theorem dX11_count_100 : decode cX11_count 100 = .ok (.goto 4, 3) := by decide +kernel
theorem dX11_count_103 : decode cX11_count 103 = .ok (.iconst 0, 1) := by decide +kernel
theorem dX11_count_104 : decode cX11_count 104 = .ok (.ireturn, 1) := by decide +kernel
theorem dX11_count_105 : decode cX11_count 105 = .ok (.iconst (-1), 1) := by decide +kernel
theorem dX11_count_106 : decode cX11_count 106 = .ok (.ireturn, 1) := by decide +kernel
theorem eX11_count_0 : am_lim call mX11_count 0 [l0, some (.int x)] (S) σ = am_lim call mX11_count 1 [l0, some (.int x)] (.int x :: S) σ := r_iload_n dX11_count_0 rfl
theorem eX11_count_1_0 : am_lim call mX11_count 1 [l0, l1] (.int 0 :: S) σ = am_lim call mX11_count 44 [l0, l1] (S) σ := r_tsK (off := 43) 44 dX11_count_1 (by decide) (by decide) (by decide)
theorem eX11_count_1_1 : am_lim call mX11_count 1 [l0, l1] (.int 1 :: S) σ = am_lim call mX11_count 52 [l0, l1] (S) σ := r_tsK (off := 51) 52 dX11_count_1 (by decide) (by decide) (by decide)
theorem eX11_count_1_2 : am_lim call mX11_count 1 [l0, l1] (.int 2 :: S) σ = am_lim call mX11_count 60 [l0, l1] (S) σ := r_tsK (off := 59) 60 dX11_count_1 (by decide) (by decide) (by decide)
theorem eX11_count_1_3 : am_lim call mX11_count 1 [l0, l1] (.int 3 :: S) σ = am_lim call mX11_count 65 [l0, l1] (S) σ := r_tsK (off := 64) 65 dX11_count_1 (by decide) (by decide) (by decide)
theorem eX11_count_1_4 : am_lim call mX11_count 1 [l0, l1] (.int 4 :: S) σ = am_lim call mX11_count 72 [l0, l1] (S) σ := r_tsK (off := 71) 72 dX11_count_1 (by decide) (by decide) (by decide)
theorem eX11_count_1_5 : am_lim call mX11_count 1 [l0, l1] (.int 5 :: S) σ = am_lim call mX11_count 79 [l0, l1] (S) σ := r_tsK (off := 78) 79 dX11_count_1 (by decide) (by decide) (by decide)
theorem eX11_count_1_6 : am_lim call mX11_count 1 [l0, l1] (.int 6 :: S) σ = am_lim call mX11_count 86 [l0, l1] (S) σ := r_tsK (off := 85) 86 dX11_count_1 (by decide) (by decide) (by decide)
theorem eX11_count_1_d (h : x.toInt < 0 ∨ 6 < x.toInt) : am_lim call mX11_count 1 [l0, l1] (.int x :: S) σ = am_lim call mX11_count 105 [l0, l1] (S) σ := r_tsD 105 dX11_count_1 h (by decide)
theorem eX11_count_105 : am_lim call mX11_count 105 [l0, l1] (S) σ = am_lim call mX11_count 106 [l0, l1] (.int (-1) :: S) σ := r_iconst dX11_count_105 (by decide)
theorem eX11_count_106 : am_lim call mX11_count 106 [l0, l1] ([.int x]) σ = some (some (.int x), σ) := r_retI dX11_count_106 rfl
theorem eX11_count_86 : am_lim call mX11_count 86 [some (.ref a), l1] (S) σ = am_lim call mX11_count 87 [some (.ref a), l1] (.ref a :: S) σ := r_aload_n dX11_count_86 rfl
theorem eX11_count_87 (h : g_o σ a 11) : am_lim call mX11_count 87 [l0, l1] (.ref a :: S) σ = am_lim call mX11_count 90 [l0, l1] (.int (g_I σ a 9) :: S) σ := r_getI dX11_count_87 f_11_70 rfl h
theorem eX11_count_90 : am_lim call mX11_count 90 [l0, l1] (.int x :: S) σ = if x = 0 then am_lim call mX11_count 103 [l0, l1] (S) σ else am_lim call mX11_count 93 [l0, l1] (S) σ := r_ifB 103 dX11_count_90 (by decide) rfl
theorem eX11_count_93 : am_lim call mX11_count 93 [some (.ref a), l1] (S) σ = am_lim call mX11_count 94 [some (.ref a), l1] (.ref a :: S) σ := r_aload_n dX11_count_93 rfl
theorem eX11_count_94 (h : g_o σ a 11) : am_lim call mX11_count 94 [l0, l1] (.ref a :: S) σ = am_lim call mX11_count 97 [l0, l1] (va_rf (g_R σ a 7) :: S) σ := r_getR dX11_count_94 f_11_10 rfl h
theorem eX11_count_97 (h : g_o σ a 7) : am_lim call mX11_count 97 [l0, l1] (.ref a :: S) σ = am_lim call mX11_count 100 [l0, l1] (.int (g_I σ a 0) :: S) σ := r_getI dX11_count_97 f_11_231 rfl h
theorem eX11_count_100 : am_lim call mX11_count 100 [l0, l1] (S) σ = am_lim call mX11_count 104 [l0, l1] (S) σ := r_goto 104 dX11_count_100 (by decide)
theorem eX11_count_104 : am_lim call mX11_count 104 [l0, l1] ([.int x]) σ = some (some (.int x), σ) := r_retI dX11_count_104 rfl
theorem eX11_count_103 : am_lim call mX11_count 103 [l0, l1] (S) σ = am_lim call mX11_count 104 [l0, l1] (.int 0 :: S) σ := r_iconst dX11_count_103 (by decide)
theorem eX11_count_79 : am_lim call mX11_count 79 [some (.ref a), l1] (S) σ = am_lim call mX11_count 80 [some (.ref a), l1] (.ref a :: S) σ := r_aload_n dX11_count_79 rfl
theorem eX11_count_80 (h : g_o σ a 11) : am_lim call mX11_count 80 [l0, l1] (.ref a :: S) σ = am_lim call mX11_count 83 [l0, l1] (va_rf (g_R σ a 11) :: S) σ := r_getR dX11_count_80 f_11_78 rfl h
theorem eX11_count_83 : am_lim call mX11_count 83 [l0, l1] (S) σ = am_lim call mX11_count 84 [l0, l1] (.int 2 :: S) σ := r_iconst dX11_count_83 (by decide)
theorem eX11_count_84 {n : Nat} (h : g_a σ a n) (hi : am_in x n) : am_lim call mX11_count 84 [l0, l1] (.int x :: .ref a :: S) σ = am_lim call mX11_count 85 [l0, l1] (.int (g_I σ a x.toNatClampNeg) :: S) σ := r_iald dX11_count_84 h hi
theorem eX11_count_85 : am_lim call mX11_count 85 [l0, l1] ([.int x]) σ = some (some (.int x), σ) := r_retI dX11_count_85 rfl
theorem eX11_count_72 : am_lim call mX11_count 72 [some (.ref a), l1] (S) σ = am_lim call mX11_count 73 [some (.ref a), l1] (.ref a :: S) σ := r_aload_n dX11_count_72 rfl
theorem eX11_count_73 (h : g_o σ a 11) : am_lim call mX11_count 73 [l0, l1] (.ref a :: S) σ = am_lim call mX11_count 76 [l0, l1] (va_rf (g_R σ a 11) :: S) σ := r_getR dX11_count_73 f_11_78 rfl h
theorem eX11_count_76 : am_lim call mX11_count 76 [l0, l1] (S) σ = am_lim call mX11_count 77 [l0, l1] (.int 1 :: S) σ := r_iconst dX11_count_76 (by decide)
theorem eX11_count_77 {n : Nat} (h : g_a σ a n) (hi : am_in x n) : am_lim call mX11_count 77 [l0, l1] (.int x :: .ref a :: S) σ = am_lim call mX11_count 78 [l0, l1] (.int (g_I σ a x.toNatClampNeg) :: S) σ := r_iald dX11_count_77 h hi
theorem eX11_count_78 : am_lim call mX11_count 78 [l0, l1] ([.int x]) σ = some (some (.int x), σ) := r_retI dX11_count_78 rfl
theorem eX11_count_65 : am_lim call mX11_count 65 [some (.ref a), l1] (S) σ = am_lim call mX11_count 66 [some (.ref a), l1] (.ref a :: S) σ := r_aload_n dX11_count_65 rfl
theorem eX11_count_66 (h : g_o σ a 11) : am_lim call mX11_count 66 [l0, l1] (.ref a :: S) σ = am_lim call mX11_count 69 [l0, l1] (va_rf (g_R σ a 11) :: S) σ := r_getR dX11_count_66 f_11_78 rfl h
theorem eX11_count_69 : am_lim call mX11_count 69 [l0, l1] (S) σ = am_lim call mX11_count 70 [l0, l1] (.int 0 :: S) σ := r_iconst dX11_count_69 (by decide)
theorem eX11_count_70 {n : Nat} (h : g_a σ a n) (hi : am_in x n) : am_lim call mX11_count 70 [l0, l1] (.int x :: .ref a :: S) σ = am_lim call mX11_count 71 [l0, l1] (.int (g_I σ a x.toNatClampNeg) :: S) σ := r_iald dX11_count_70 h hi
theorem eX11_count_71 : am_lim call mX11_count 71 [l0, l1] ([.int x]) σ = some (some (.int x), σ) := r_retI dX11_count_71 rfl
theorem eX11_count_60 : am_lim call mX11_count 60 [some (.ref a), l1] (S) σ = am_lim call mX11_count 61 [some (.ref a), l1] (.ref a :: S) σ := r_aload_n dX11_count_60 rfl
theorem eX11_count_61 (h : g_o σ a 11) : am_lim call mX11_count 61 [l0, l1] (.ref a :: S) σ = am_lim call mX11_count 64 [l0, l1] (.int (g_I σ a 10) :: S) σ := r_getI dX11_count_61 f_11_74 rfl h
theorem eX11_count_64 : am_lim call mX11_count 64 [l0, l1] ([.int x]) σ = some (some (.int x), σ) := r_retI dX11_count_64 rfl
theorem eX11_count_52 : am_lim call mX11_count 52 [some (.ref a), l1] (S) σ = am_lim call mX11_count 53 [some (.ref a), l1] (.ref a :: S) σ := r_aload_n dX11_count_52 rfl
theorem eX11_count_53 (h : g_o σ a 11) : am_lim call mX11_count 53 [l0, l1] (.ref a :: S) σ = am_lim call mX11_count 56 [l0, l1] (va_rf (g_R σ a 1) :: S) σ := r_getR dX11_count_53 f_11_22 rfl h
theorem eX11_count_56 (h : g_o σ a 5) : am_lim call mX11_count 56 [l0, l1] (.ref a :: S) σ = am_lim call mX11_count 59 [l0, l1] (.int (g_I σ a 0) :: S) σ := r_getI dX11_count_56 f_11_214 rfl h
theorem eX11_count_59 : am_lim call mX11_count 59 [l0, l1] ([.int x]) σ = some (some (.int x), σ) := r_retI dX11_count_59 rfl
theorem eX11_count_44 : am_lim call mX11_count 44 [some (.ref a), l1] (S) σ = am_lim call mX11_count 45 [some (.ref a), l1] (.ref a :: S) σ := r_aload_n dX11_count_44 rfl
theorem eX11_count_45 (h : g_o σ a 11) : am_lim call mX11_count 45 [l0, l1] (.ref a :: S) σ = am_lim call mX11_count 48 [l0, l1] (va_rf (g_R σ a 0) :: S) σ := r_getR dX11_count_45 f_11_41 rfl h
theorem eX11_count_48 (h : g_o σ a 3) : am_lim call mX11_count 48 [l0, l1] (.ref a :: S) σ = am_lim call mX11_count 51 [l0, l1] (.int (g_I σ a 0) :: S) σ := r_getI dX11_count_48 f_11_86 rfl h
theorem eX11_count_51 : am_lim call mX11_count 51 [l0, l1] ([.int x]) σ = some (some (.int x), σ) := r_retI dX11_count_51 rfl
theorem nX11_count {d : Nat} : am_run (d + 1) mX11_count [.ref b, .int v0] σ = am_lim (am_run d) mX11_count 0 [some (.ref b), some (.int v0)] [] σ := am_run_S rfl rfl rfl rfl
theorem dX12_count_0 : decode cX12_count 0 = .ok (.aload_n 0, 1) := by decide +kernel
theorem dX12_count_1 : decode cX12_count 1 = .ok (.iconst 0, 1) := by decide +kernel
theorem dX12_count_2 : decode cX12_count 2 = .ok (.putfield 113, 3) := by decide +kernel
theorem dX12_count_5 : decode cX12_count 5 = .ok (.iload_n 1, 1) := by decide +kernel
theorem dX12_count_6 : decode cX12_count 6 = .ok (.tableswitch 83 0 6 #[42, 47, 52, 57, 64, 71, 78], 42) := by decide +kernel
theorem dX12_count_48 : decode cX12_count 48 = .ok (.aload_n 0, 1) := by decide +kernel
theorem dX12_count_49 : decode cX12_count 49 = .ok (.getfield 116, 3) := by decide +kernel
theorem dX12_count_52 : decode cX12_count 52 = .ok (.ireturn, 1) := by decide +kernel
theorem dX12_count_53 : decode cX12_count 53 = .ok (.aload_n 0, 1) := by decide +kernel
theorem dX12_count_54 : decode cX12_count 54 = .ok (.getfield 414, 3) := by decide +kernel
theorem dX12_count_57 : decode cX12_count 57 = .ok (.ireturn, 1) := by decide +kernel
theorem dX12_count_58 : decode cX12_count 58 = .ok (.aload_n 0, 1) := by decide +kernel
theorem dX12_count_59 : decode cX12_count 59 = .ok (.getfield 425, 3) := by decide +kernel
theorem dX12_count_62 : decode cX12_count 62 = .ok (.ireturn, 1) := by decide +kernel
theorem dX12_count_63 : decode cX12_count 63 = .ok (.aload_n 0, 1) := by decide +kernel
theorem dX12_count_64 : decode cX12_count 64 = .ok (.getfield 55, 3) := by decide +kernel
theorem dX12_count_67 : decode cX12_count 67 = .ok (.iconst 0, 1) := by decide +kernel
theorem dX12_count_68 : decode cX12_count 68 = .ok (.iaload, 1) := by decide +kernel
theorem dX12_count_69 : decode cX12_count 69 = .ok (.ireturn, 1) := by decide +kernel
theorem dX12_count_70 : decode cX12_count 70 = .ok (.aload_n 0, 1) := by decide +kernel
theorem dX12_count_71 : decode cX12_count 71 = .ok (.getfield 55, 3) := by decide +kernel
theorem dX12_count_74 : decode cX12_count 74 = .ok (.iconst 1, 1) := by decide +kernel
theorem dX12_count_75 : decode cX12_count 75 = .ok (.iaload, 1) := by decide +kernel
theorem dX12_count_76 : decode cX12_count 76 = .ok (.ireturn, 1) := by decide +kernel
theorem dX12_count_77 : decode cX12_count 77 = .ok (.aload_n 0, 1) := by decide +kernel
theorem dX12_count_78 : decode cX12_count 78 = .ok (.getfield 55, 3) := by decide +kernel
theorem dX12_count_81 : decode cX12_count 81 = .ok (.iconst 2, 1) := by decide +kernel
theorem dX12_count_82 : decode cX12_count 82 = .ok (.iaload, 1) := by decide +kernel
theorem dX12_count_83 : decode cX12_count 83 = .ok (.ireturn, 1) := by decide +kernel
theorem dX12_count_84 : decode cX12_count 84 = .ok (.aload_n 0, 1) := by decide +kernel
theorem dX12_count_85 : decode cX12_count 85 = .ok (.getfield 441, 3) := by decide +kernel
theorem dX12_count_88 : decode cX12_count 88 = .ok (.ireturn, 1) := by decide +kernel
theorem dX12_count_89 : decode cX12_count 89 = .ok (.iconst (-1), 1) := by decide +kernel
theorem dX12_count_90 : decode cX12_count 90 = .ok (.ireturn, 1) := by decide +kernel
theorem eX12_count_0 : am_lim call mX12_count 0 [some (.ref a), l1] (S) σ = am_lim call mX12_count 1 [some (.ref a), l1] (.ref a :: S) σ := r_aload_n dX12_count_0 rfl
theorem eX12_count_1 : am_lim call mX12_count 1 [l0, l1] (S) σ = am_lim call mX12_count 2 [l0, l1] (.int 0 :: S) σ := r_iconst dX12_count_1 (by decide)
theorem eX12_count_2 (h : g_o σ a 12) : am_lim call mX12_count 2 [l0, l1] (.int x :: .ref a :: S) σ = am_lim call mX12_count 5 [l0, l1] (S) (am_sI σ a 0 x) := r_putI dX12_count_2 f_12_113 rfl rfl h
theorem eX12_count_5 : am_lim call mX12_count 5 [l0, some (.int x)] (S) σ = am_lim call mX12_count 6 [l0, some (.int x)] (.int x :: S) σ := r_iload_n dX12_count_5 rfl
theorem eX12_count_6_0 : am_lim call mX12_count 6 [l0, l1] (.int 0 :: S) σ = am_lim call mX12_count 48 [l0, l1] (S) σ := r_tsK (off := 42) 48 dX12_count_6 (by decide) (by decide) (by decide)
theorem eX12_count_6_1 : am_lim call mX12_count 6 [l0, l1] (.int 1 :: S) σ = am_lim call mX12_count 53 [l0, l1] (S) σ := r_tsK (off := 47) 53 dX12_count_6 (by decide) (by decide) (by decide)
theorem eX12_count_6_2 : am_lim call mX12_count 6 [l0, l1] (.int 2 :: S) σ = am_lim call mX12_count 58 [l0, l1] (S) σ := r_tsK (off := 52) 58 dX12_count_6 (by decide) (by decide) (by decide)
theorem eX12_count_6_3 : am_lim call mX12_count 6 [l0, l1] (.int 3 :: S) σ = am_lim call mX12_count 63 [l0, l1] (S) σ := r_tsK (off := 57) 63 dX12_count_6 (by decide) (by decide) (by decide)
theorem eX12_count_6_4 : am_lim call mX12_count 6 [l0, l1] (.int 4 :: S) σ = am_lim call mX12_count 70 [l0, l1] (S) σ := r_tsK (off := 64) 70 dX12_count_6 (by decide) (by decide) (by decide)
theorem eX12_count_6_5 : am_lim call mX12_count 6 [l0, l1] (.int 5 :: S) σ = am_lim call mX12_count 77 [l0, l1] (S) σ := r_tsK (off := 71) 77 dX12_count_6 (by decide) (by decide) (by decide)
theorem eX12_count_6_6 : am_lim call mX12_count 6 [l0, l1] (.int 6 :: S) σ = am_lim call mX12_count 84 [l0, l1] (S) σ := r_tsK (off := 78) 84 dX12_count_6 (by decide) (by decide) (by decide)
theorem eX12_count_6_d (h : x.toInt < 0 ∨ 6 < x.toInt) : am_lim call mX12_count 6 [l0, l1] (.int x :: S) σ = am_lim call mX12_count 89 [l0, l1] (S) σ := r_tsD 89 dX12_count_6 h (by decide)
theorem eX12_count_89 : am_lim call mX12_count 89 [l0, l1] (S) σ = am_lim call mX12_count 90 [l0, l1] (.int (-1) :: S) σ := r_iconst dX12_count_89 (by decide)
theorem eX12_count_90 : am_lim call mX12_count 90 [l0, l1] ([.int x]) σ = some (some (.int x), σ) := r_retI dX12_count_90 rfl
theorem eX12_count_84 : am_lim call mX12_count 84 [some (.ref a), l1] (S) σ = am_lim call mX12_count 85 [some (.ref a), l1] (.ref a :: S) σ := r_aload_n dX12_count_84 rfl
theorem eX12_count_85 (h : g_o σ a 12) : am_lim call mX12_count 85 [l0, l1] (.ref a :: S) σ = am_lim call mX12_count 88 [l0, l1] (.int (g_I σ a 50) :: S) σ := r_getI dX12_count_85 f_12_441 rfl h
theorem eX12_count_88 : am_lim call mX12_count 88 [l0, l1] ([.int x]) σ = some (some (.int x), σ) := r_retI dX12_count_88 rfl
theorem eX12_count_77 : am_lim call mX12_count 77 [some (.ref a), l1] (S) σ = am_lim call mX12_count 78 [some (.ref a), l1] (.ref a :: S) σ := r_aload_n dX12_count_77 rfl
theorem eX12_count_78 (h : g_o σ a 12) : am_lim call mX12_count 78 [l0, l1] (.ref a :: S) σ = am_lim call mX12_count 81 [l0, l1] (va_rf (g_R σ a 44) :: S) σ := r_getR dX12_count_78 f_12_55 rfl h
theorem eX12_count_81 : am_lim call mX12_count 81 [l0, l1] (S) σ = am_lim call mX12_count 82 [l0, l1] (.int 2 :: S) σ := r_iconst dX12_count_81 (by decide)
theorem eX12_count_82 {n : Nat} (h : g_a σ a n) (hi : am_in x n) : am_lim call mX12_count 82 [l0, l1] (.int x :: .ref a :: S) σ = am_lim call mX12_count 83 [l0, l1] (.int (g_I σ a x.toNatClampNeg) :: S) σ := r_iald dX12_count_82 h hi
theorem eX12_count_83 : am_lim call mX12_count 83 [l0, l1] ([.int x]) σ = some (some (.int x), σ) := r_retI dX12_count_83 rfl
theorem eX12_count_70 : am_lim call mX12_count 70 [some (.ref a), l1] (S) σ = am_lim call mX12_count 71 [some (.ref a), l1] (.ref a :: S) σ := r_aload_n dX12_count_70 rfl
theorem eX12_count_71 (h : g_o σ a 12) : am_lim call mX12_count 71 [l0, l1] (.ref a :: S) σ = am_lim call mX12_count 74 [l0, l1] (va_rf (g_R σ a 44) :: S) σ := r_getR dX12_count_71 f_12_55 rfl h
theorem eX12_count_74 : am_lim call mX12_count 74 [l0, l1] (S) σ = am_lim call mX12_count 75 [l0, l1] (.int 1 :: S) σ := r_iconst dX12_count_74 (by decide)
theorem eX12_count_75 {n : Nat} (h : g_a σ a n) (hi : am_in x n) : am_lim call mX12_count 75 [l0, l1] (.int x :: .ref a :: S) σ = am_lim call mX12_count 76 [l0, l1] (.int (g_I σ a x.toNatClampNeg) :: S) σ := r_iald dX12_count_75 h hi
theorem eX12_count_76 : am_lim call mX12_count 76 [l0, l1] ([.int x]) σ = some (some (.int x), σ) := r_retI dX12_count_76 rfl
theorem eX12_count_63 : am_lim call mX12_count 63 [some (.ref a), l1] (S) σ = am_lim call mX12_count 64 [some (.ref a), l1] (.ref a :: S) σ := r_aload_n dX12_count_63 rfl
theorem eX12_count_64 (h : g_o σ a 12) : am_lim call mX12_count 64 [l0, l1] (.ref a :: S) σ = am_lim call mX12_count 67 [l0, l1] (va_rf (g_R σ a 44) :: S) σ := r_getR dX12_count_64 f_12_55 rfl h
theorem eX12_count_67 : am_lim call mX12_count 67 [l0, l1] (S) σ = am_lim call mX12_count 68 [l0, l1] (.int 0 :: S) σ := r_iconst dX12_count_67 (by decide)
theorem eX12_count_68 {n : Nat} (h : g_a σ a n) (hi : am_in x n) : am_lim call mX12_count 68 [l0, l1] (.int x :: .ref a :: S) σ = am_lim call mX12_count 69 [l0, l1] (.int (g_I σ a x.toNatClampNeg) :: S) σ := r_iald dX12_count_68 h hi
theorem eX12_count_69 : am_lim call mX12_count 69 [l0, l1] ([.int x]) σ = some (some (.int x), σ) := r_retI dX12_count_69 rfl
theorem eX12_count_58 : am_lim call mX12_count 58 [some (.ref a), l1] (S) σ = am_lim call mX12_count 59 [some (.ref a), l1] (.ref a :: S) σ := r_aload_n dX12_count_58 rfl
theorem eX12_count_59 (h : g_o σ a 12) : am_lim call mX12_count 59 [l0, l1] (.ref a :: S) σ = am_lim call mX12_count 62 [l0, l1] (.int (g_I σ a 42) :: S) σ := r_getI dX12_count_59 f_12_425 rfl h
theorem eX12_count_62 : am_lim call mX12_count 62 [l0, l1] ([.int x]) σ = some (some (.int x), σ) := r_retI dX12_count_62 rfl
theorem eX12_count_53 : am_lim call mX12_count 53 [some (.ref a), l1] (S) σ = am_lim call mX12_count 54 [some (.ref a), l1] (.ref a :: S) σ := r_aload_n dX12_count_53 rfl
theorem eX12_count_54 (h : g_o σ a 12) : am_lim call mX12_count 54 [l0, l1] (.ref a :: S) σ = am_lim call mX12_count 57 [l0, l1] (.int (g_I σ a 43) :: S) σ := r_getI dX12_count_54 f_12_414 rfl h
theorem eX12_count_57 : am_lim call mX12_count 57 [l0, l1] ([.int x]) σ = some (some (.int x), σ) := r_retI dX12_count_57 rfl
theorem eX12_count_48 : am_lim call mX12_count 48 [some (.ref a), l1] (S) σ = am_lim call mX12_count 49 [some (.ref a), l1] (.ref a :: S) σ := r_aload_n dX12_count_48 rfl
theorem eX12_count_49 (h : g_o σ a 12) : am_lim call mX12_count 49 [l0, l1] (.ref a :: S) σ = am_lim call mX12_count 52 [l0, l1] (.int (g_I σ a 2) :: S) σ := r_getI dX12_count_49 f_12_116 rfl h
theorem eX12_count_52 : am_lim call mX12_count 52 [l0, l1] ([.int x]) σ = some (some (.int x), σ) := r_retI dX12_count_52 rfl
theorem nX12_count {d : Nat} : am_run (d + 1) mX12_count [.ref b, .int v0] σ = am_lim (am_run d) mX12_count 0 [some (.ref b), some (.int v0)] [] σ := am_run_S rfl rfl rfl rfl
theorem eX11_step_0 : am_lim call mX11_step 0 [some (.ref a), l1, l2] (S) σ = am_lim call mX11_step 1 [some (.ref a), l1, l2] (.ref a :: S) σ := r_aload_n dX11_step_0 rfl
theorem eX11_step_1 (h : g_o σ a 11) : am_lim call mX11_step 1 [l0, l1, l2] (.ref a :: S) σ = am_lim call mX11_step 4 [l0, l1, l2] (va_rf (g_R σ a 5) :: S) σ := r_getR dX11_step_1 f_11_29 rfl h
theorem eX11_step_4 (h : g_o σ a 2) : am_lim call mX11_step 4 [l0, l1, l2] (.ref a :: S) σ = am_lim call mX11_step 7 [l0, l1, l2] (.int (g_I σ a 3) :: S) σ := r_getI dX11_step_4 f_11_131 rfl h
theorem eX11_step_7 : am_lim call mX11_step 7 [l0, l1, l2] (S) σ = am_lim call mX11_step 8 [l0, l1, l2] (.int (-1) :: S) σ := r_iconst dX11_step_7 (by decide)
theorem eX11_step_8 : am_lim call mX11_step 8 [l0, l1, l2] (.int y :: .int x :: S) σ = if x = y then am_lim call mX11_step 36 [l0, l1, l2] (S) σ else am_lim call mX11_step 11 [l0, l1, l2] (S) σ := r_icmpB 36 dX11_step_8 (by decide) rfl
theorem eX11_step_11 : am_lim call mX11_step 11 [l0, some (.int x), l2] (S) σ = am_lim call mX11_step 12 [l0, some (.int x), l2] (.int x :: S) σ := r_iload_n dX11_step_11 rfl
theorem eX11_step_12 : am_lim call mX11_step 12 [l0, l1, l2] (.int x :: S) σ = if x < 0 then am_lim call mX11_step 36 [l0, l1, l2] (S) σ else am_lim call mX11_step 15 [l0, l1, l2] (S) σ := r_ifB 36 dX11_step_12 (by decide) rfl
theorem eX11_step_15 : am_lim call mX11_step 15 [l0, some (.int x), l2] (S) σ = am_lim call mX11_step 16 [l0, some (.int x), l2] (.int x :: S) σ := r_iload_n dX11_step_15 rfl
theorem eX11_step_16 : am_lim call mX11_step 16 [some (.ref a), l1, l2] (S) σ = am_lim call mX11_step 17 [some (.ref a), l1, l2] (.ref a :: S) σ := r_aload_n dX11_step_16 rfl
theorem eX11_step_17 (h : g_o σ a 11) : am_lim call mX11_step 17 [l0, l1, l2] (.ref a :: S) σ = am_lim call mX11_step 20 [l0, l1, l2] (va_rf (g_R σ a 5) :: S) σ := r_getR dX11_step_17 f_11_29 rfl h
theorem eX11_step_20 (h : g_o σ a 2) : am_lim call mX11_step 20 [l0, l1, l2] (.ref a :: S) σ = am_lim call mX11_step 23 [l0, l1, l2] (.int (g_I σ a 4) :: S) σ := r_getI dX11_step_20 f_11_122 rfl h
theorem eX11_step_23 : am_lim call mX11_step 23 [l0, l1, l2] (.int y :: .int x :: S) σ = if y ≤ x then am_lim call mX11_step 36 [l0, l1, l2] (S) σ else am_lim call mX11_step 26 [l0, l1, l2] (S) σ := r_icmpB 36 dX11_step_23 (by decide) rfl
theorem eX11_step_26 : am_lim call mX11_step 26 [l0, l1, some (.int x)] (S) σ = am_lim call mX11_step 27 [l0, l1, some (.int x)] (.int x :: S) σ := r_iload_n dX11_step_26 rfl
theorem eX11_step_27 : am_lim call mX11_step 27 [l0, l1, l2] (.int x :: S) σ = if x < 0 then am_lim call mX11_step 36 [l0, l1, l2] (S) σ else am_lim call mX11_step 30 [l0, l1, l2] (S) σ := r_ifB 36 dX11_step_27 (by decide) rfl
theorem eX11_step_30 : am_lim call mX11_step 30 [l0, l1, some (.int x)] (S) σ = am_lim call mX11_step 31 [l0, l1, some (.int x)] (.int x :: S) σ := r_iload_n dX11_step_30 rfl
theorem eX11_step_31 : am_lim call mX11_step 31 [l0, l1, l2] (S) σ = am_lim call mX11_step 33 [l0, l1, l2] (.int 6 :: S) σ := r_bipush dX11_step_31 (by decide)
theorem eX11_step_33 : am_lim call mX11_step 33 [l0, l1, l2] (.int y :: .int x :: S) σ = if x < y then am_lim call mX11_step 44 [l0, l1, l2] (S) σ else am_lim call mX11_step 36 [l0, l1, l2] (S) σ := r_icmpB 44 dX11_step_33 (by decide) rfl
theorem eX11_step_44 : am_lim call mX11_step 44 [some (.ref a), l1, l2] (S) σ = am_lim call mX11_step 45 [some (.ref a), l1, l2] (.ref a :: S) σ := r_aload_n dX11_step_44 rfl
theorem eX11_step_45 (h : g_o σ a 11) : am_lim call mX11_step 45 [l0, l1, l2] (.ref a :: S) σ = am_lim call mX11_step 48 [l0, l1, l2] (va_rf (g_R σ a 5) :: S) σ := r_getR dX11_step_45 f_11_29 rfl h
theorem eX11_step_48 (h : g_o σ a 2) : am_lim call mX11_step 48 [l0, l1, l2] (.ref a :: S) σ = am_lim call mX11_step 51 [l0, l1, l2] (va_rf (g_R σ a 1) :: S) σ := r_getR dX11_step_48 f_11_179 rfl h
theorem eX11_step_51 : am_lim call mX11_step 51 [l0, some (.int x), l2] (S) σ = am_lim call mX11_step 52 [l0, some (.int x), l2] (.int x :: S) σ := r_iload_n dX11_step_51 rfl
theorem eX11_step_52 : am_lim call mX11_step 52 [l0, l1, l2] (S) σ = am_lim call mX11_step 54 [l0, l1, l2] (.int 6 :: S) σ := r_bipush dX11_step_52 (by decide)
theorem eX11_step_54 : am_lim call mX11_step 54 [l0, l1, l2] (.int y :: .int x :: S) σ = am_lim call mX11_step 55 [l0, l1, l2] (.int (x * y) :: S) σ := r_imul dX11_step_54
theorem eX11_step_55 : am_lim call mX11_step 55 [l0, l1, some (.int x)] (S) σ = am_lim call mX11_step 56 [l0, l1, some (.int x)] (.int x :: S) σ := r_iload_n dX11_step_55 rfl
theorem eX11_step_56 : am_lim call mX11_step 56 [l0, l1, l2] (.int y :: .int x :: S) σ = am_lim call mX11_step 57 [l0, l1, l2] (.int (x + y) :: S) σ := r_iadd dX11_step_56
theorem eX11_step_57 {n : Nat} (h : g_a σ a n) (hi : am_in x n) : am_lim call mX11_step 57 [l0, l1, l2] (.int x :: .ref a :: S) σ = am_lim call mX11_step 58 [l0, l1, l2] (.int (g_I σ a x.toNatClampNeg) :: S) σ := r_iald dX11_step_57 h hi
theorem eX11_step_58 : am_lim call mX11_step 58 [l0, l1, l2] ([.int x]) σ = some (some (.int x), σ) := r_retI dX11_step_58 rfl
theorem nX11_step {d : Nat} : am_run (d + 1) mX11_step [.ref b, .int v0, .int v1] σ = am_lim (am_run d) mX11_step 0 [some (.ref b), some (.int v0), some (.int v1)] [] σ := am_run_S rfl rfl rfl rfl
theorem dX12_step_0 : decode cX12_step 0 = .ok (.aload_n 0, 1) := by decide +kernel
theorem dX12_step_1 : decode cX12_step 1 = .ok (.aload_n 0, 1) := by decide +kernel
theorem dX12_step_2 : decode cX12_step 2 = .ok (.getfield 431, 3) := by decide +kernel
theorem dX12_step_5 : decode cX12_step 5 = .ok (.ifCond .eq 35, 3) := by decide +kernel
theorem dX12_step_8 : decode cX12_step 8 = .ok (.iload_n 1, 1) := by decide +kernel
theorem dX12_step_9 : decode cX12_step 9 = .ok (.i2l, 1) := by decide +kernel
theorem dX12_step_10 : decode cX12_step 10 = .ok (.lconst 0, 1) := by decide +kernel
theorem dX12_step_11 : decode cX12_step 11 = .ok (.aload_n 0, 1) := by decide +kernel
theorem dX12_step_12 : decode cX12_step 12 = .ok (.getfield 273, 3) := by decide +kernel
theorem dX12_step_15 : decode cX12_step 15 = .ok (.iconst 1, 1) := by decide +kernel
theorem dX12_step_16 : decode cX12_step 16 = .ok (.isub, 1) := by decide +kernel
theorem dX12_step_17 : decode cX12_step 17 = .ok (.i2l, 1) := by decide +kernel
theorem dX12_step_18 : decode cX12_step 18 = .ok (.invokestatic 199, 3) := by decide +kernel
theorem dX12_step_21 : decode cX12_step 21 = .ok (.ifCond .eq 19, 3) := by decide +kernel
theorem dX12_step_24 : decode cX12_step 24 = .ok (.iload_n 2, 1) := by decide +kernel
theorem dX12_step_25 : decode cX12_step 25 = .ok (.i2l, 1) := by decide +kernel
theorem dX12_step_26 : decode cX12_step 26 = .ok (.lconst 0, 1) := by decide +kernel
theorem dX12_step_27 : decode cX12_step 27 = .ok (.ldc2_w 488, 3) := by decide +kernel
theorem dX12_step_30 : decode cX12_step 30 = .ok (.invokestatic 199, 3) := by decide +kernel
theorem dX12_step_33 : decode cX12_step 33 = .ok (.ifCond .eq 7, 3) := by decide +kernel
theorem dX12_step_36 : decode cX12_step 36 = .ok (.iconst 0, 1) := by decide +kernel
theorem dX12_step_37 : decode cX12_step 37 = .ok (.goto 4, 3) := by decide +kernel
theorem dX12_step_40 : decode cX12_step 40 = .ok (.iconst 1, 1) := by decide +kernel
theorem dX12_step_41 : decode cX12_step 41 = .ok (.putfield 113, 3) := by decide +kernel
theorem dX12_step_44 : decode cX12_step 44 = .ok (.aload_n 0, 1) := by decide +kernel
theorem dX12_step_45 : decode cX12_step 45 = .ok (.getfield 113, 3) := by decide +kernel
theorem dX12_step_48 : decode cX12_step 48 = .ok (.ifCond .le 7, 3) := by decide +kernel
theorem dX12_step_51 : decode cX12_step 51 = .ok (.iconst 0, 1) := by decide +kernel
theorem dX12_step_52 : decode cX12_step 52 = .ok (.goto 14, 3) := by decide +kernel
theorem dX12_step_55 : decode cX12_step 55 = .ok (.aload_n 0, 1) := by decide +kernel
theorem dX12_step_56 : decode cX12_step 56 = .ok (.getfield 45, 3) := by decide +kernel
theorem dX12_step_59 : decode cX12_step 59 = .ok (.bipush 6, 2) := by decide +kernel
theorem dX12_step_61 : decode cX12_step 61 = .ok (.iload_n 1, 1) := by decide +kernel
theorem dX12_step_62 : decode cX12_step 62 = .ok (.imul, 1) := by decide +kernel
theorem dX12_step_63 : decode cX12_step 63 = .ok (.iload_n 2, 1) := by decide +kernel
theorem dX12_step_64 : decode cX12_step 64 = .ok (.iadd, 1) := by decide +kernel
theorem dX12_step_65 : decode cX12_step 65 = .ok (.iaload, 1) := by decide +kernel
theorem dX12_step_66 : decode cX12_step 66 = .ok (.ireturn, 1) := by decide +kernel
theorem eX12_step_0 : am_lim call mX12_step 0 [some (.ref a), l1, l2] (S) σ = am_lim call mX12_step 1 [some (.ref a), l1, l2] (.ref a :: S) σ := r_aload_n dX12_step_0 rfl
theorem eX12_step_1 : am_lim call mX12_step 1 [some (.ref a), l1, l2] (S) σ = am_lim call mX12_step 2 [some (.ref a), l1, l2] (.ref a :: S) σ := r_aload_n dX12_step_1 rfl
theorem eX12_step_2 (h : g_o σ a 12) : am_lim call mX12_step 2 [l0, l1, l2] (.ref a :: S) σ = am_lim call mX12_step 5 [l0, l1, l2] (.int (g_I σ a 36) :: S) σ := r_getI dX12_step_2 f_12_431 rfl h
theorem eX12_step_5 : am_lim call mX12_step 5 [l0, l1, l2] (.int x :: S) σ = if x = 0 then am_lim call mX12_step 40 [l0, l1, l2] (S) σ else am_lim call mX12_step 8 [l0, l1, l2] (S) σ := r_ifB 40 dX12_step_5 (by decide) rfl
theorem eX12_step_8 : am_lim call mX12_step 8 [l0, some (.int x), l2] (S) σ = am_lim call mX12_step 9 [l0, some (.int x), l2] (.int x :: S) σ := r_iload_n dX12_step_8 rfl
theorem eX12_step_9 : am_lim call mX12_step 9 [l0, l1, l2] (.int x :: S) σ = am_lim call mX12_step 10 [l0, l1, l2] (.long x.toInt64 :: S) σ := r_i2l dX12_step_9
theorem eX12_step_10 : am_lim call mX12_step 10 [l0, l1, l2] (S) σ = am_lim call mX12_step 11 [l0, l1, l2] (.long 0 :: S) σ := r_lconst dX12_step_10 (by decide)
theorem eX12_step_11 : am_lim call mX12_step 11 [some (.ref a), l1, l2] (S) σ = am_lim call mX12_step 12 [some (.ref a), l1, l2] (.ref a :: S) σ := r_aload_n dX12_step_11 rfl
theorem eX12_step_12 (h : g_o σ a 12) : am_lim call mX12_step 12 [l0, l1, l2] (.ref a :: S) σ = am_lim call mX12_step 15 [l0, l1, l2] (.int (g_I σ a 25) :: S) σ := r_getI dX12_step_12 f_12_273 rfl h
theorem eX12_step_15 : am_lim call mX12_step 15 [l0, l1, l2] (S) σ = am_lim call mX12_step 16 [l0, l1, l2] (.int 1 :: S) σ := r_iconst dX12_step_15 (by decide)
theorem eX12_step_16 : am_lim call mX12_step 16 [l0, l1, l2] (.int y :: .int x :: S) σ = am_lim call mX12_step 17 [l0, l1, l2] (.int (x - y) :: S) σ := r_isub dX12_step_16
theorem eX12_step_17 : am_lim call mX12_step 17 [l0, l1, l2] (.int x :: S) σ = am_lim call mX12_step 18 [l0, l1, l2] (.long x.toInt64 :: S) σ := r_i2l dX12_step_17
theorem eX12_step_18 : am_lim call mX12_step 18 [l0, l1, l2] (.long w2 :: .long w1 :: .long w0 :: .ref q0 :: []) σ = am_k (call mX12_isIn [.long w0, .long w1, .long w2] σ) (fun r σ1 => am_lim call mX12_step 21 [l0, l1, l2] (r.toList ++ .ref q0 :: []) σ1) := r_kS (S1 := [.long w2, .long w1, .long w0]) dX12_step_18 ⟨rfl, rfl, rfl⟩ mt_12_199 rfl (Nat.le_of_ble_eq_true rfl)
theorem eX12_step_21 : am_lim call mX12_step 21 [l0, l1, l2] (.int x :: S) σ = if x = 0 then am_lim call mX12_step 40 [l0, l1, l2] (S) σ else am_lim call mX12_step 24 [l0, l1, l2] (S) σ := r_ifB 40 dX12_step_21 (by decide) rfl
theorem eX12_step_24 : am_lim call mX12_step 24 [l0, l1, some (.int x)] (S) σ = am_lim call mX12_step 25 [l0, l1, some (.int x)] (.int x :: S) σ := r_iload_n dX12_step_24 rfl
theorem eX12_step_25 : am_lim call mX12_step 25 [l0, l1, l2] (.int x :: S) σ = am_lim call mX12_step 26 [l0, l1, l2] (.long x.toInt64 :: S) σ := r_i2l dX12_step_25
theorem eX12_step_26 : am_lim call mX12_step 26 [l0, l1, l2] (S) σ = am_lim call mX12_step 27 [l0, l1, l2] (.long 0 :: S) σ := r_lconst dX12_step_26 (by decide)
theorem eX12_step_27 : am_lim call mX12_step 27 [l0, l1, l2] (S) σ = am_lim call mX12_step 30 [l0, l1, l2] (.long 5 :: S) σ := r_ldc2 dX12_step_27 (by decide +kernel)
theorem eX12_step_30 : am_lim call mX12_step 30 [l0, l1, l2] (.long w2 :: .long w1 :: .long w0 :: .ref q0 :: []) σ = am_k (call mX12_isIn [.long w0, .long w1, .long w2] σ) (fun r σ1 => am_lim call mX12_step 33 [l0, l1, l2] (r.toList ++ .ref q0 :: []) σ1) := r_kS (S1 := [.long w2, .long w1, .long w0]) dX12_step_30 ⟨rfl, rfl, rfl⟩ mt_12_199 rfl (Nat.le_of_ble_eq_true rfl)
theorem eX12_step_33 : am_lim call mX12_step 33 [l0, l1, l2] (.int x :: S) σ = if x = 0 then am_lim call mX12_step 40 [l0, l1, l2] (S) σ else am_lim call mX12_step 36 [l0, l1, l2] (S) σ := r_ifB 40 dX12_step_33 (by decide) rfl
theorem eX12_step_36 : am_lim call mX12_step 36 [l0, l1, l2] (S) σ = am_lim call mX12_step 37 [l0, l1, l2] (.int 0 :: S) σ := r_iconst dX12_step_36 (by decide)
theorem eX12_step_37 : am_lim call mX12_step 37 [l0, l1, l2] (S) σ = am_lim call mX12_step 41 [l0, l1, l2] (S) σ := r_goto 41 dX12_step_37 (by decide)
theorem eX12_step_41 (h : g_o σ a 12) : am_lim call mX12_step 41 [l0, l1, l2] (.int x :: .ref a :: S) σ = am_lim call mX12_step 44 [l0, l1, l2] (S) (am_sI σ a 0 x) := r_putI dX12_step_41 f_12_113 rfl rfl h
theorem eX12_step_44 : am_lim call mX12_step 44 [some (.ref a), l1, l2] (S) σ = am_lim call mX12_step 45 [some (.ref a), l1, l2] (.ref a :: S) σ := r_aload_n dX12_step_44 rfl
theorem eX12_step_45 (h : g_o σ a 12) : am_lim call mX12_step 45 [l0, l1, l2] (.ref a :: S) σ = am_lim call mX12_step 48 [l0, l1, l2] (.int (g_I σ a 0) :: S) σ := r_getI dX12_step_45 f_12_113 rfl h
theorem eX12_step_48 : am_lim call mX12_step 48 [l0, l1, l2] (.int x :: S) σ = if x ≤ 0 then am_lim call mX12_step 55 [l0, l1, l2] (S) σ else am_lim call mX12_step 51 [l0, l1, l2] (S) σ := r_ifB 55 dX12_step_48 (by decide) rfl
theorem eX12_step_51 : am_lim call mX12_step 51 [l0, l1, l2] (S) σ = am_lim call mX12_step 52 [l0, l1, l2] (.int 0 :: S) σ := r_iconst dX12_step_51 (by decide)
theorem eX12_step_52 : am_lim call mX12_step 52 [l0, l1, l2] (S) σ = am_lim call mX12_step 66 [l0, l1, l2] (S) σ := r_goto 66 dX12_step_52 (by decide)
theorem eX12_step_66 : am_lim call mX12_step 66 [l0, l1, l2] ([.int x]) σ = some (some (.int x), σ) := r_retI dX12_step_66 rfl
theorem eX12_step_55 : am_lim call mX12_step 55 [some (.ref a), l1, l2] (S) σ = am_lim call mX12_step 56 [some (.ref a), l1, l2] (.ref a :: S) σ := r_aload_n dX12_step_55 rfl
theorem eX12_step_56 (h : g_o σ a 12) : am_lim call mX12_step 56 [l0, l1, l2] (.ref a :: S) σ = am_lim call mX12_step 59 [l0, l1, l2] (va_rf (g_R σ a 24) :: S) σ := r_getR dX12_step_56 f_12_45 rfl h
theorem eX12_step_59 : am_lim call mX12_step 59 [l0, l1, l2] (S) σ = am_lim call mX12_step 61 [l0, l1, l2] (.int 6 :: S) σ := r_bipush dX12_step_59 (by decide)
theorem eX12_step_61 : am_lim call mX12_step 61 [l0, some (.int x), l2] (S) σ = am_lim call mX12_step 62 [l0, some (.int x), l2] (.int x :: S) σ := r_iload_n dX12_step_61 rfl
theorem eX12_step_62 : am_lim call mX12_step 62 [l0, l1, l2] (.int y :: .int x :: S) σ = am_lim call mX12_step 63 [l0, l1, l2] (.int (x * y) :: S) σ := r_imul dX12_step_62
theorem eX12_step_63 : am_lim call mX12_step 63 [l0, l1, some (.int x)] (S) σ = am_lim call mX12_step 64 [l0, l1, some (.int x)] (.int x :: S) σ := r_iload_n dX12_step_63 rfl
theorem eX12_step_64 : am_lim call mX12_step 64 [l0, l1, l2] (.int y :: .int x :: S) σ = am_lim call mX12_step 65 [l0, l1, l2] (.int (x + y) :: S) σ := r_iadd dX12_step_64
theorem eX12_step_65 {n : Nat} (h : g_a σ a n) (hi : am_in x n) : am_lim call mX12_step 65 [l0, l1, l2] (.int x :: .ref a :: S) σ = am_lim call mX12_step 66 [l0, l1, l2] (.int (g_I σ a x.toNatClampNeg) :: S) σ := r_iald dX12_step_65 h hi
theorem eX12_step_40 : am_lim call mX12_step 40 [l0, l1, l2] (S) σ = am_lim call mX12_step 41 [l0, l1, l2] (.int 1 :: S) σ := r_iconst dX12_step_40 (by decide)
theorem nX12_step {d : Nat} : am_run (d + 1) mX12_step [.ref b, .int v0, .int v1] σ = am_lim (am_run d) mX12_step 0 [some (.ref b), some (.int v0), some (.int v1)] [] σ := am_run_S rfl rfl rfl rfl
theorem dX12_thrown_0 : decode cX12_thrown 0 = .ok (.aload_n 0, 1) := by decide +kernel
theorem dX12_thrown_1 : decode cX12_thrown 1 = .ok (.getfield 113, 3) := by decide +kernel
theorem dX12_thrown_4 : decode cX12_thrown 4 = .ok (.ireturn, 1) := by decide +kernel
theorem eX12_thrown_0 : am_lim call mX12_thrown 0 [some (.ref a)] (S) σ = am_lim call mX12_thrown 1 [some (.ref a)] (.ref a :: S) σ := r_aload_n dX12_thrown_0 rfl
theorem eX12_thrown_1 (h : g_o σ a 12) : am_lim call mX12_thrown 1 [l0] (.ref a :: S) σ = am_lim call mX12_thrown 4 [l0] (.int (g_I σ a 0) :: S) σ := r_getI dX12_thrown_1 f_12_113 rfl h
theorem eX12_thrown_4 : am_lim call mX12_thrown 4 [l0] ([.int x]) σ = some (some (.int x), σ) := r_retI dX12_thrown_4 rfl
theorem nX12_thrown {d : Nat} : am_run (d + 1) mX12_thrown [.ref b] σ = am_lim (am_run d) mX12_thrown 0 [some (.ref b)] [] σ := am_run_S rfl rfl rfl rfl
end
