section
variable {call : am_I → List Value → am_St → Option (Option Value × am_St)} {S : List Value} {σ : am_St} {x y w : Int32} {z z2 : Int64} {a b : Nat} {l0 l1 l2 l3 l4 l5 l6 l7 l8 l9 l10 l11 l12 l13 : Option Value} {s0 v0 s1 v1 s2 v2 s3 v3 s4 v4 s5 v5 s6 v6 s7 v7 s8 v8 : Int32} {q0 p0 q1 p1 q2 p2 q3 p3 q4 p4 q5 p5 q6 p6 q7 p7 q8 p8 : Nat} {j0 w0 j1 w1 j2 w2 j3 w3 j4 w4 j5 w5 j6 w6 j7 w7 j8 w8 : Int64}
theorem dX3_put_0 : decode cX3_put 0 = .ok (.bipush 24, 2) := by decide +kernel
theorem dX3_put_2 : decode cX3_put 2 = .ok (.istore_n 2, 1) := by decide +kernel
theorem dX3_put_3 : decode cX3_put 3 = .ok (.iload_n 2, 1) := by decide +kernel
theorem dX3_put_4 : decode cX3_put 4 = .ok (.ifCond .lt 51, 3) := by decide +kernel
theorem dX3_put_7 : decode cX3_put 7 = .ok (.iload_n 1, 1) := by decide +kernel
theorem dX3_put_8 : decode cX3_put 8 = .ok (.iload_n 2, 1) := by decide +kernel
theorem dX3_put_9 : decode cX3_put 9 = .ok (.ishr, 1) := by decide +kernel
theorem dX3_put_10 : decode cX3_put 10 = .ok (.sipush 255, 3) := by decide +kernel
theorem dX3_put_13 : decode cX3_put 13 = .ok (.iand, 1) := by decide +kernel
theorem dX3_put_14 : decode cX3_put 14 = .ok (.istore_n 3, 1) := by decide +kernel
theorem dX3_put_15 : decode cX3_put 15 = .ok (.iload_n 3, 1) := by decide +kernel
theorem dX3_put_16 : decode cX3_put 16 = .ok (.ifCond .eq 33, 3) := by decide +kernel
theorem dX3_put_19 : decode cX3_put 19 = .ok (.aload_n 0, 1) := by decide +kernel
theorem dX3_put_20 : decode cX3_put 20 = .ok (.getfield 30, 3) := by decide +kernel
theorem dX3_put_23 : decode cX3_put 23 = .ok (.sipush 300, 3) := by decide +kernel
theorem dX3_put_26 : decode cX3_put 26 = .ok (.if_icmp .ge 23, 3) := by decide +kernel
theorem dX3_put_29 : decode cX3_put 29 = .ok (.aload_n 0, 1) := by decide +kernel
theorem dX3_put_30 : decode cX3_put 30 = .ok (.getfield 11, 3) := by decide +kernel
theorem dX3_put_33 : decode cX3_put 33 = .ok (.aload_n 0, 1) := by decide +kernel
theorem dX3_put_34 : decode cX3_put 34 = .ok (.getfield 30, 3) := by decide +kernel
theorem dX3_put_37 : decode cX3_put 37 = .ok (.iload_n 3, 1) := by decide +kernel
theorem dX3_put_38 : decode cX3_put 38 = .ok (.iastore, 1) := by decide +kernel
theorem dX3_put_39 : decode cX3_put 39 = .ok (.aload_n 0, 1) := by decide +kernel
theorem dX3_put_40 : decode cX3_put 40 = .ok (.dup, 1) := by decide +kernel
theorem dX3_put_41 : decode cX3_put 41 = .ok (.getfield 30, 3) := by decide +kernel
theorem dX3_put_44 : decode cX3_put 44 = .ok (.iconst 1, 1) := by decide +kernel
theorem dX3_put_45 : decode cX3_put 45 = .ok (.iadd, 1) := by decide +kernel
theorem dX3_put_46 : decode cX3_put 46 = .ok (.putfield 30, 3) := by decide +kernel
theorem dX3_put_49 : decode cX3_put 49 = .ok (.iinc 2 (-8), 3) := by decide +kernel
theorem dX3_put_52 : decode cX3_put 52 = .ok (.goto (-49), 3) := by decide +kernel
theorem dX3_put_55 : decode cX3_put 55 = .ok (.return_, 1) := by decide +kernel
theorem eX3_put_0 : am_lim call mX3_put 0 [l0, l1, l2, l3] (S) σ = am_lim call mX3_put 2 [l0, l1, l2, l3] (.int 24 :: S) σ := r_bipush dX3_put_0 (by decide)
theorem eX3_put_2 : am_lim call mX3_put 2 [l0, l1, l2, l3] (.int x :: S) σ = am_lim call mX3_put 3 [l0, l1, some (.int x), l3] (S) σ := r_istore_n dX3_put_2 rfl rfl rfl rfl
theorem eX3_put_3 : am_lim call mX3_put 3 [l0, l1, some (.int x), l3] (S) σ = am_lim call mX3_put 4 [l0, l1, some (.int x), l3] (.int x :: S) σ := r_iload_n dX3_put_3 rfl
theorem eX3_put_4 : am_lim call mX3_put 4 [l0, l1, l2, l3] (.int x :: S) σ = if x < 0 then am_lim call mX3_put 55 [l0, l1, l2, l3] (S) σ else am_lim call mX3_put 7 [l0, l1, l2, l3] (S) σ := r_ifB 55 dX3_put_4 (by decide) rfl
theorem eX3_put_7 : am_lim call mX3_put 7 [l0, some (.int x), l2, l3] (S) σ = am_lim call mX3_put 8 [l0, some (.int x), l2, l3] (.int x :: S) σ := r_iload_n dX3_put_7 rfl
theorem eX3_put_8 : am_lim call mX3_put 8 [l0, l1, some (.int x), l3] (S) σ = am_lim call mX3_put 9 [l0, l1, some (.int x), l3] (.int x :: S) σ := r_iload_n dX3_put_8 rfl
theorem eX3_put_9 : am_lim call mX3_put 9 [l0, l1, l2, l3] (.int y :: .int x :: S) σ = am_lim call mX3_put 10 [l0, l1, l2, l3] (.int (x >>> (y &&& 31)) :: S) σ := r_ishr dX3_put_9
theorem eX3_put_10 : am_lim call mX3_put 10 [l0, l1, l2, l3] (S) σ = am_lim call mX3_put 13 [l0, l1, l2, l3] (.int 255 :: S) σ := r_sipush dX3_put_10 (by decide)
theorem eX3_put_13 : am_lim call mX3_put 13 [l0, l1, l2, l3] (.int y :: .int x :: S) σ = am_lim call mX3_put 14 [l0, l1, l2, l3] (.int (x &&& y) :: S) σ := r_iand dX3_put_13
theorem eX3_put_14 : am_lim call mX3_put 14 [l0, l1, l2, l3] (.int x :: S) σ = am_lim call mX3_put 15 [l0, l1, l2, some (.int x)] (S) σ := r_istore_n dX3_put_14 rfl rfl rfl rfl
theorem eX3_put_15 : am_lim call mX3_put 15 [l0, l1, l2, some (.int x)] (S) σ = am_lim call mX3_put 16 [l0, l1, l2, some (.int x)] (.int x :: S) σ := r_iload_n dX3_put_15 rfl
theorem eX3_put_16 : am_lim call mX3_put 16 [l0, l1, l2, l3] (.int x :: S) σ = if x = 0 then am_lim call mX3_put 49 [l0, l1, l2, l3] (S) σ else am_lim call mX3_put 19 [l0, l1, l2, l3] (S) σ := r_ifB 49 dX3_put_16 (by decide) rfl
theorem eX3_put_19 : am_lim call mX3_put 19 [some (.ref a), l1, l2, l3] (S) σ = am_lim call mX3_put 20 [some (.ref a), l1, l2, l3] (.ref a :: S) σ := r_aload_n dX3_put_19 rfl
theorem eX3_put_20 (h : g_o σ a 3) : am_lim call mX3_put 20 [l0, l1, l2, l3] (.ref a :: S) σ = am_lim call mX3_put 23 [l0, l1, l2, l3] (.int (g_I σ a 0) :: S) σ := r_getI dX3_put_20 f_3_30 rfl h
theorem eX3_put_23 : am_lim call mX3_put 23 [l0, l1, l2, l3] (S) σ = am_lim call mX3_put 26 [l0, l1, l2, l3] (.int 300 :: S) σ := r_sipush dX3_put_23 (by decide)
theorem eX3_put_26 : am_lim call mX3_put 26 [l0, l1, l2, l3] (.int y :: .int x :: S) σ = if y ≤ x then am_lim call mX3_put 49 [l0, l1, l2, l3] (S) σ else am_lim call mX3_put 29 [l0, l1, l2, l3] (S) σ := r_icmpB 49 dX3_put_26 (by decide) rfl
theorem eX3_put_29 : am_lim call mX3_put 29 [some (.ref a), l1, l2, l3] (S) σ = am_lim call mX3_put 30 [some (.ref a), l1, l2, l3] (.ref a :: S) σ := r_aload_n dX3_put_29 rfl
theorem eX3_put_30 (h : g_o σ a 3) : am_lim call mX3_put 30 [l0, l1, l2, l3] (.ref a :: S) σ = am_lim call mX3_put 33 [l0, l1, l2, l3] (va_rf (g_R σ a 3) :: S) σ := r_getR dX3_put_30 f_3_11 rfl h
theorem eX3_put_33 : am_lim call mX3_put 33 [some (.ref a), l1, l2, l3] (S) σ = am_lim call mX3_put 34 [some (.ref a), l1, l2, l3] (.ref a :: S) σ := r_aload_n dX3_put_33 rfl
theorem eX3_put_34 (h : g_o σ a 3) : am_lim call mX3_put 34 [l0, l1, l2, l3] (.ref a :: S) σ = am_lim call mX3_put 37 [l0, l1, l2, l3] (.int (g_I σ a 0) :: S) σ := r_getI dX3_put_34 f_3_30 rfl h
theorem eX3_put_37 : am_lim call mX3_put 37 [l0, l1, l2, some (.int x)] (S) σ = am_lim call mX3_put 38 [l0, l1, l2, some (.int x)] (.int x :: S) σ := r_iload_n dX3_put_37 rfl
theorem eX3_put_38 {n : Nat} (h : g_a σ a n) (hi : am_in x n) : am_lim call mX3_put 38 [l0, l1, l2, l3] (.int y :: .int x :: .ref a :: S) σ = am_lim call mX3_put 39 [l0, l1, l2, l3] (S) (am_sI σ a x.toNatClampNeg y) := r_iast dX3_put_38 h hi
theorem eX3_put_39 : am_lim call mX3_put 39 [some (.ref a), l1, l2, l3] (S) σ = am_lim call mX3_put 40 [some (.ref a), l1, l2, l3] (.ref a :: S) σ := r_aload_n dX3_put_39 rfl
theorem eX3_put_40 : am_lim call mX3_put 40 [l0, l1, l2, l3] (.ref a :: S) σ = am_lim call mX3_put 41 [l0, l1, l2, l3] (.ref a :: .ref a :: S) σ := r_dupA dX3_put_40
theorem eX3_put_41 (h : g_o σ a 3) : am_lim call mX3_put 41 [l0, l1, l2, l3] (.ref a :: S) σ = am_lim call mX3_put 44 [l0, l1, l2, l3] (.int (g_I σ a 0) :: S) σ := r_getI dX3_put_41 f_3_30 rfl h
theorem eX3_put_44 : am_lim call mX3_put 44 [l0, l1, l2, l3] (S) σ = am_lim call mX3_put 45 [l0, l1, l2, l3] (.int 1 :: S) σ := r_iconst dX3_put_44 (by decide)
theorem eX3_put_45 : am_lim call mX3_put 45 [l0, l1, l2, l3] (.int y :: .int x :: S) σ = am_lim call mX3_put 46 [l0, l1, l2, l3] (.int (x + y) :: S) σ := r_iadd dX3_put_45
theorem eX3_put_46 (h : g_o σ a 3) : am_lim call mX3_put 46 [l0, l1, l2, l3] (.int x :: .ref a :: S) σ = am_lim call mX3_put 49 [l0, l1, l2, l3] (S) (am_sI σ a 0 x) := r_putI dX3_put_46 f_3_30 rfl rfl h
theorem eX3_put_49 : am_lim call mX3_put 49 [l0, l1, some (.int x), l3] (S) σ = am_lim call mX3_put 52 [l0, l1, some (.int (x + (-8))), l3] (S) σ := r_iinc dX3_put_49 rfl (by decide) rfl rfl rfl rfl
theorem eX3_put_52 : am_lim call mX3_put 52 [l0, l1, l2, l3] (S) σ = am_lim call mX3_put 3 [l0, l1, l2, l3] (S) σ := r_goto 3 dX3_put_52 (by decide)
theorem eX3_put_55 : am_lim call mX3_put 55 [l0, l1, l2, l3] ([]) σ = some (none, σ) := r_retV dX3_put_55 rfl
theorem nX3_put {d : Nat} : am_run (d + 1) mX3_put [.ref b, .int v0] σ = am_lim (am_run d) mX3_put 0 [some (.ref b), some (.int v0), none, none] [] σ := am_run_S rfl rfl rfl rfl
theorem dX3_bytesIn_0 : decode cX3_bytesIn 0 = .ok (.iconst 0, 1) := by decide +kernel
theorem dX3_bytesIn_1 : decode cX3_bytesIn 1 = .ok (.istore_n 1, 1) := by decide +kernel
theorem dX3_bytesIn_2 : decode cX3_bytesIn 2 = .ok (.bipush 24, 2) := by decide +kernel
theorem dX3_bytesIn_4 : decode cX3_bytesIn 4 = .ok (.istore_n 2, 1) := by decide +kernel
theorem dX3_bytesIn_5 : decode cX3_bytesIn 5 = .ok (.iload_n 2, 1) := by decide +kernel
theorem dX3_bytesIn_6 : decode cX3_bytesIn 6 = .ok (.ifCond .lt 22, 3) := by decide +kernel
theorem dX3_bytesIn_9 : decode cX3_bytesIn 9 = .ok (.iload_n 0, 1) := by decide +kernel
theorem dX3_bytesIn_10 : decode cX3_bytesIn 10 = .ok (.iload_n 2, 1) := by decide +kernel
theorem dX3_bytesIn_11 : decode cX3_bytesIn 11 = .ok (.ishr, 1) := by decide +kernel
theorem dX3_bytesIn_12 : decode cX3_bytesIn 12 = .ok (.sipush 255, 3) := by decide +kernel
theorem dX3_bytesIn_15 : decode cX3_bytesIn 15 = .ok (.iand, 1) := by decide +kernel
theorem dX3_bytesIn_16 : decode cX3_bytesIn 16 = .ok (.ifCond .eq 6, 3) := by decide +kernel
theorem dX3_bytesIn_19 : decode cX3_bytesIn 19 = .ok (.iinc 1 1, 3) := by decide +kernel
theorem dX3_bytesIn_22 : decode cX3_bytesIn 22 = .ok (.iinc 2 (-8), 3) := by decide +kernel
theorem dX3_bytesIn_25 : decode cX3_bytesIn 25 = .ok (.goto (-20), 3) := by decide +kernel
theorem dX3_bytesIn_28 : decode cX3_bytesIn 28 = .ok (.iload_n 1, 1) := by decide +kernel
theorem dX3_bytesIn_29 : decode cX3_bytesIn 29 = .ok (.ireturn, 1) := by decide +kernel
theorem eX3_bytesIn_0 : am_lim call mX3_bytesIn 0 [l0, l1, l2] (S) σ = am_lim call mX3_bytesIn 1 [l0, l1, l2] (.int 0 :: S) σ := r_iconst dX3_bytesIn_0 (by decide)
theorem eX3_bytesIn_1 : am_lim call mX3_bytesIn 1 [l0, l1, l2] (.int x :: S) σ = am_lim call mX3_bytesIn 2 [l0, some (.int x), l2] (S) σ := r_istore_n dX3_bytesIn_1 rfl rfl rfl rfl
theorem eX3_bytesIn_2 : am_lim call mX3_bytesIn 2 [l0, l1, l2] (S) σ = am_lim call mX3_bytesIn 4 [l0, l1, l2] (.int 24 :: S) σ := r_bipush dX3_bytesIn_2 (by decide)
theorem eX3_bytesIn_4 : am_lim call mX3_bytesIn 4 [l0, l1, l2] (.int x :: S) σ = am_lim call mX3_bytesIn 5 [l0, l1, some (.int x)] (S) σ := r_istore_n dX3_bytesIn_4 rfl rfl rfl rfl
theorem eX3_bytesIn_5 : am_lim call mX3_bytesIn 5 [l0, l1, some (.int x)] (S) σ = am_lim call mX3_bytesIn 6 [l0, l1, some (.int x)] (.int x :: S) σ := r_iload_n dX3_bytesIn_5 rfl
theorem eX3_bytesIn_6 : am_lim call mX3_bytesIn 6 [l0, l1, l2] (.int x :: S) σ = if x < 0 then am_lim call mX3_bytesIn 28 [l0, l1, l2] (S) σ else am_lim call mX3_bytesIn 9 [l0, l1, l2] (S) σ := r_ifB 28 dX3_bytesIn_6 (by decide) rfl
theorem eX3_bytesIn_9 : am_lim call mX3_bytesIn 9 [some (.int x), l1, l2] (S) σ = am_lim call mX3_bytesIn 10 [some (.int x), l1, l2] (.int x :: S) σ := r_iload_n dX3_bytesIn_9 rfl
theorem eX3_bytesIn_10 : am_lim call mX3_bytesIn 10 [l0, l1, some (.int x)] (S) σ = am_lim call mX3_bytesIn 11 [l0, l1, some (.int x)] (.int x :: S) σ := r_iload_n dX3_bytesIn_10 rfl
theorem eX3_bytesIn_11 : am_lim call mX3_bytesIn 11 [l0, l1, l2] (.int y :: .int x :: S) σ = am_lim call mX3_bytesIn 12 [l0, l1, l2] (.int (x >>> (y &&& 31)) :: S) σ := r_ishr dX3_bytesIn_11
theorem eX3_bytesIn_12 : am_lim call mX3_bytesIn 12 [l0, l1, l2] (S) σ = am_lim call mX3_bytesIn 15 [l0, l1, l2] (.int 255 :: S) σ := r_sipush dX3_bytesIn_12 (by decide)
theorem eX3_bytesIn_15 : am_lim call mX3_bytesIn 15 [l0, l1, l2] (.int y :: .int x :: S) σ = am_lim call mX3_bytesIn 16 [l0, l1, l2] (.int (x &&& y) :: S) σ := r_iand dX3_bytesIn_15
theorem eX3_bytesIn_16 : am_lim call mX3_bytesIn 16 [l0, l1, l2] (.int x :: S) σ = if x = 0 then am_lim call mX3_bytesIn 22 [l0, l1, l2] (S) σ else am_lim call mX3_bytesIn 19 [l0, l1, l2] (S) σ := r_ifB 22 dX3_bytesIn_16 (by decide) rfl
theorem eX3_bytesIn_19 : am_lim call mX3_bytesIn 19 [l0, some (.int x), l2] (S) σ = am_lim call mX3_bytesIn 22 [l0, some (.int (x + 1)), l2] (S) σ := r_iinc dX3_bytesIn_19 rfl (by decide) rfl rfl rfl rfl
theorem eX3_bytesIn_22 : am_lim call mX3_bytesIn 22 [l0, l1, some (.int x)] (S) σ = am_lim call mX3_bytesIn 25 [l0, l1, some (.int (x + (-8)))] (S) σ := r_iinc dX3_bytesIn_22 rfl (by decide) rfl rfl rfl rfl
theorem eX3_bytesIn_25 : am_lim call mX3_bytesIn 25 [l0, l1, l2] (S) σ = am_lim call mX3_bytesIn 5 [l0, l1, l2] (S) σ := r_goto 5 dX3_bytesIn_25 (by decide)
theorem eX3_bytesIn_28 : am_lim call mX3_bytesIn 28 [l0, some (.int x), l2] (S) σ = am_lim call mX3_bytesIn 29 [l0, some (.int x), l2] (.int x :: S) σ := r_iload_n dX3_bytesIn_28 rfl
theorem eX3_bytesIn_29 : am_lim call mX3_bytesIn 29 [l0, l1, l2] ([.int x]) σ = some (some (.int x), σ) := r_retI dX3_bytesIn_29 rfl
theorem nX3_bytesIn {d : Nat} : am_run (d + 1) mX3_bytesIn [.int v0] σ = am_lim (am_run d) mX3_bytesIn 0 [some (.int v0), none, none] [] σ := am_run_S rfl rfl rfl rfl
theorem dX12_bytesOf_0 : decode cX12_bytesOf 0 = .ok (.iconst 0, 1) := by decide +kernel
theorem dX12_bytesOf_1 : decode cX12_bytesOf 1 = .ok (.istore_n 1, 1) := by decide +kernel
theorem dX12_bytesOf_2 : decode cX12_bytesOf 2 = .ok (.iconst 0, 1) := by decide +kernel
theorem dX12_bytesOf_3 : decode cX12_bytesOf 3 = .ok (.istore_n 2, 1) := by decide +kernel
theorem dX12_bytesOf_4 : decode cX12_bytesOf 4 = .ok (.iload_n 2, 1) := by decide +kernel
theorem dX12_bytesOf_5 : decode cX12_bytesOf 5 = .ok (.iconst 4, 1) := by decide +kernel
theorem dX12_bytesOf_6 : decode cX12_bytesOf 6 = .ok (.if_icmp .ge 30, 3) := by decide +kernel
theorem dX12_bytesOf_9 : decode cX12_bytesOf 9 = .ok (.iload_n 1, 1) := by decide +kernel
theorem dX12_bytesOf_10 : decode cX12_bytesOf 10 = .ok (.iload_n 0, 1) := by decide +kernel
theorem dX12_bytesOf_11 : decode cX12_bytesOf 11 = .ok (.bipush 8, 2) := by decide +kernel
theorem dX12_bytesOf_13 : decode cX12_bytesOf 13 = .ok (.iload_n 2, 1) := by decide +kernel
theorem dX12_bytesOf_14 : decode cX12_bytesOf 14 = .ok (.imul, 1) := by decide +kernel
theorem dX12_bytesOf_15 : decode cX12_bytesOf 15 = .ok (.ishr, 1) := by decide +kernel
theorem dX12_bytesOf_16 : decode cX12_bytesOf 16 = .ok (.sipush 255, 3) := by decide +kernel
theorem dX12_bytesOf_19 : decode cX12_bytesOf 19 = .ok (.iand, 1) := by decide +kernel
theorem dX12_bytesOf_20 : decode cX12_bytesOf 20 = .ok (.ifCond .ne 7, 3) := by decide +kernel
theorem dX12_bytesOf_23 : decode cX12_bytesOf 23 = .ok (.iconst 0, 1) := by decide +kernel
theorem dX12_bytesOf_24 : decode cX12_bytesOf 24 = .ok (.goto 4, 3) := by decide +kernel
theorem dX12_bytesOf_27 : decode cX12_bytesOf 27 = .ok (.iconst 1, 1) := by decide +kernel
theorem dX12_bytesOf_28 : decode cX12_bytesOf 28 = .ok (.iadd, 1) := by decide +kernel
theorem dX12_bytesOf_29 : decode cX12_bytesOf 29 = .ok (.istore_n 1, 1) := by decide +kernel
theorem dX12_bytesOf_30 : decode cX12_bytesOf 30 = .ok (.iinc 2 1, 3) := by decide +kernel
theorem dX12_bytesOf_33 : decode cX12_bytesOf 33 = .ok (.goto (-29), 3) := by decide +kernel
theorem dX12_bytesOf_36 : decode cX12_bytesOf 36 = .ok (.iload_n 1, 1) := by decide +kernel
theorem dX12_bytesOf_37 : decode cX12_bytesOf 37 = .ok (.ireturn, 1) := by decide +kernel
theorem eX12_bytesOf_0 : am_lim call mX12_bytesOf 0 [l0, l1, l2] (S) σ = am_lim call mX12_bytesOf 1 [l0, l1, l2] (.int 0 :: S) σ := r_iconst dX12_bytesOf_0 (by decide)
theorem eX12_bytesOf_1 : am_lim call mX12_bytesOf 1 [l0, l1, l2] (.int x :: S) σ = am_lim call mX12_bytesOf 2 [l0, some (.int x), l2] (S) σ := r_istore_n dX12_bytesOf_1 rfl rfl rfl rfl
theorem eX12_bytesOf_2 : am_lim call mX12_bytesOf 2 [l0, l1, l2] (S) σ = am_lim call mX12_bytesOf 3 [l0, l1, l2] (.int 0 :: S) σ := r_iconst dX12_bytesOf_2 (by decide)
theorem eX12_bytesOf_3 : am_lim call mX12_bytesOf 3 [l0, l1, l2] (.int x :: S) σ = am_lim call mX12_bytesOf 4 [l0, l1, some (.int x)] (S) σ := r_istore_n dX12_bytesOf_3 rfl rfl rfl rfl
theorem eX12_bytesOf_4 : am_lim call mX12_bytesOf 4 [l0, l1, some (.int x)] (S) σ = am_lim call mX12_bytesOf 5 [l0, l1, some (.int x)] (.int x :: S) σ := r_iload_n dX12_bytesOf_4 rfl
theorem eX12_bytesOf_5 : am_lim call mX12_bytesOf 5 [l0, l1, l2] (S) σ = am_lim call mX12_bytesOf 6 [l0, l1, l2] (.int 4 :: S) σ := r_iconst dX12_bytesOf_5 (by decide)
theorem eX12_bytesOf_6 : am_lim call mX12_bytesOf 6 [l0, l1, l2] (.int y :: .int x :: S) σ = if y ≤ x then am_lim call mX12_bytesOf 36 [l0, l1, l2] (S) σ else am_lim call mX12_bytesOf 9 [l0, l1, l2] (S) σ := r_icmpB 36 dX12_bytesOf_6 (by decide) rfl
theorem eX12_bytesOf_9 : am_lim call mX12_bytesOf 9 [l0, some (.int x), l2] (S) σ = am_lim call mX12_bytesOf 10 [l0, some (.int x), l2] (.int x :: S) σ := r_iload_n dX12_bytesOf_9 rfl
theorem eX12_bytesOf_10 : am_lim call mX12_bytesOf 10 [some (.int x), l1, l2] (S) σ = am_lim call mX12_bytesOf 11 [some (.int x), l1, l2] (.int x :: S) σ := r_iload_n dX12_bytesOf_10 rfl
theorem eX12_bytesOf_11 : am_lim call mX12_bytesOf 11 [l0, l1, l2] (S) σ = am_lim call mX12_bytesOf 13 [l0, l1, l2] (.int 8 :: S) σ := r_bipush dX12_bytesOf_11 (by decide)
theorem eX12_bytesOf_13 : am_lim call mX12_bytesOf 13 [l0, l1, some (.int x)] (S) σ = am_lim call mX12_bytesOf 14 [l0, l1, some (.int x)] (.int x :: S) σ := r_iload_n dX12_bytesOf_13 rfl
theorem eX12_bytesOf_14 : am_lim call mX12_bytesOf 14 [l0, l1, l2] (.int y :: .int x :: S) σ = am_lim call mX12_bytesOf 15 [l0, l1, l2] (.int (x * y) :: S) σ := r_imul dX12_bytesOf_14
theorem eX12_bytesOf_15 : am_lim call mX12_bytesOf 15 [l0, l1, l2] (.int y :: .int x :: S) σ = am_lim call mX12_bytesOf 16 [l0, l1, l2] (.int (x >>> (y &&& 31)) :: S) σ := r_ishr dX12_bytesOf_15
theorem eX12_bytesOf_16 : am_lim call mX12_bytesOf 16 [l0, l1, l2] (S) σ = am_lim call mX12_bytesOf 19 [l0, l1, l2] (.int 255 :: S) σ := r_sipush dX12_bytesOf_16 (by decide)
theorem eX12_bytesOf_19 : am_lim call mX12_bytesOf 19 [l0, l1, l2] (.int y :: .int x :: S) σ = am_lim call mX12_bytesOf 20 [l0, l1, l2] (.int (x &&& y) :: S) σ := r_iand dX12_bytesOf_19
theorem eX12_bytesOf_20 : am_lim call mX12_bytesOf 20 [l0, l1, l2] (.int x :: S) σ = if x ≠ 0 then am_lim call mX12_bytesOf 27 [l0, l1, l2] (S) σ else am_lim call mX12_bytesOf 23 [l0, l1, l2] (S) σ := r_ifB 27 dX12_bytesOf_20 (by decide) rfl
theorem eX12_bytesOf_23 : am_lim call mX12_bytesOf 23 [l0, l1, l2] (S) σ = am_lim call mX12_bytesOf 24 [l0, l1, l2] (.int 0 :: S) σ := r_iconst dX12_bytesOf_23 (by decide)
theorem eX12_bytesOf_24 : am_lim call mX12_bytesOf 24 [l0, l1, l2] (S) σ = am_lim call mX12_bytesOf 28 [l0, l1, l2] (S) σ := r_goto 28 dX12_bytesOf_24 (by decide)
theorem eX12_bytesOf_28 : am_lim call mX12_bytesOf 28 [l0, l1, l2] (.int y :: .int x :: S) σ = am_lim call mX12_bytesOf 29 [l0, l1, l2] (.int (x + y) :: S) σ := r_iadd dX12_bytesOf_28
theorem eX12_bytesOf_29 : am_lim call mX12_bytesOf 29 [l0, l1, l2] (.int x :: S) σ = am_lim call mX12_bytesOf 30 [l0, some (.int x), l2] (S) σ := r_istore_n dX12_bytesOf_29 rfl rfl rfl rfl
theorem eX12_bytesOf_30 : am_lim call mX12_bytesOf 30 [l0, l1, some (.int x)] (S) σ = am_lim call mX12_bytesOf 33 [l0, l1, some (.int (x + 1))] (S) σ := r_iinc dX12_bytesOf_30 rfl (by decide) rfl rfl rfl rfl
theorem eX12_bytesOf_33 : am_lim call mX12_bytesOf 33 [l0, l1, l2] (S) σ = am_lim call mX12_bytesOf 4 [l0, l1, l2] (S) σ := r_goto 4 dX12_bytesOf_33 (by decide)
theorem eX12_bytesOf_27 : am_lim call mX12_bytesOf 27 [l0, l1, l2] (S) σ = am_lim call mX12_bytesOf 28 [l0, l1, l2] (.int 1 :: S) σ := r_iconst dX12_bytesOf_27 (by decide)
theorem eX12_bytesOf_36 : am_lim call mX12_bytesOf 36 [l0, some (.int x), l2] (S) σ = am_lim call mX12_bytesOf 37 [l0, some (.int x), l2] (.int x :: S) σ := r_iload_n dX12_bytesOf_36 rfl
theorem eX12_bytesOf_37 : am_lim call mX12_bytesOf 37 [l0, l1, l2] ([.int x]) σ = some (some (.int x), σ) := r_retI dX12_bytesOf_37 rfl
theorem nX12_bytesOf {d : Nat} : am_run (d + 1) mX12_bytesOf [.int v0] σ = am_lim (am_run d) mX12_bytesOf 0 [some (.int v0), none, none] [] σ := am_run_S rfl rfl rfl rfl
theorem dX12_brings_0 : decode cX12_brings 0 = .ok (.bipush 24, 2) := by decide +kernel
theorem dX12_brings_2 : decode cX12_brings 2 = .ok (.istore_n 2, 1) := by decide +kernel
theorem dX12_brings_3 : decode cX12_brings 3 = .ok (.iload_n 2, 1) := by decide +kernel
theorem dX12_brings_4 : decode cX12_brings 4 = .ok (.ifCond .lt 45, 3) := by decide +kernel
theorem dX12_brings_7 : decode cX12_brings 7 = .ok (.iload_n 1, 1) := by decide +kernel
theorem dX12_brings_8 : decode cX12_brings 8 = .ok (.iload_n 2, 1) := by decide +kernel
theorem dX12_brings_9 : decode cX12_brings 9 = .ok (.ishr, 1) := by decide +kernel
theorem dX12_brings_10 : decode cX12_brings 10 = .ok (.sipush 255, 3) := by decide +kernel
theorem dX12_brings_13 : decode cX12_brings 13 = .ok (.iand, 1) := by decide +kernel
theorem dX12_brings_14 : decode cX12_brings 14 = .ok (.istore_n 3, 1) := by decide +kernel
theorem dX12_brings_15 : decode cX12_brings 15 = .ok (.iload_n 3, 1) := by decide +kernel
theorem dX12_brings_16 : decode cX12_brings 16 = .ok (.ifCond .ne 6, 3) := by decide +kernel
theorem dX12_brings_19 : decode cX12_brings 19 = .ok (.goto 24, 3) := by decide +kernel
theorem dX12_brings_22 : decode cX12_brings 22 = .ok (.aload_n 0, 1) := by decide +kernel
theorem dX12_brings_23 : decode cX12_brings 23 = .ok (.getfield 9, 3) := by decide +kernel
theorem dX12_brings_26 : decode cX12_brings 26 = .ok (.aload_n 0, 1) := by decide +kernel
theorem dX12_brings_27 : decode cX12_brings 27 = .ok (.getfield 116, 3) := by decide +kernel
theorem dX12_brings_30 : decode cX12_brings 30 = .ok (.iload_n 3, 1) := by decide +kernel
theorem dX12_brings_31 : decode cX12_brings 31 = .ok (.i2b, 1) := by decide +kernel
theorem dX12_brings_32 : decode cX12_brings 32 = .ok (.bastore, 1) := by decide +kernel
theorem dX12_brings_33 : decode cX12_brings 33 = .ok (.aload_n 0, 1) := by decide +kernel
theorem dX12_brings_34 : decode cX12_brings 34 = .ok (.dup, 1) := by decide +kernel
theorem dX12_brings_35 : decode cX12_brings 35 = .ok (.getfield 116, 3) := by decide +kernel
theorem dX12_brings_38 : decode cX12_brings 38 = .ok (.iconst 1, 1) := by decide +kernel
theorem dX12_brings_39 : decode cX12_brings 39 = .ok (.iadd, 1) := by decide +kernel
theorem dX12_brings_40 : decode cX12_brings 40 = .ok (.putfield 116, 3) := by decide +kernel
theorem dX12_brings_43 : decode cX12_brings 43 = .ok (.iinc 2 (-8), 3) := by decide +kernel
theorem dX12_brings_46 : decode cX12_brings 46 = .ok (.goto (-43), 3) := by decide +kernel
theorem dX12_brings_49 : decode cX12_brings 49 = .ok (.return_, 1) := by decide +kernel
theorem eX12_brings_0 : am_lim call mX12_brings 0 [l0, l1, l2, l3] (S) σ = am_lim call mX12_brings 2 [l0, l1, l2, l3] (.int 24 :: S) σ := r_bipush dX12_brings_0 (by decide)
theorem eX12_brings_2 : am_lim call mX12_brings 2 [l0, l1, l2, l3] (.int x :: S) σ = am_lim call mX12_brings 3 [l0, l1, some (.int x), l3] (S) σ := r_istore_n dX12_brings_2 rfl rfl rfl rfl
theorem eX12_brings_3 : am_lim call mX12_brings 3 [l0, l1, some (.int x), l3] (S) σ = am_lim call mX12_brings 4 [l0, l1, some (.int x), l3] (.int x :: S) σ := r_iload_n dX12_brings_3 rfl
theorem eX12_brings_4 : am_lim call mX12_brings 4 [l0, l1, l2, l3] (.int x :: S) σ = if x < 0 then am_lim call mX12_brings 49 [l0, l1, l2, l3] (S) σ else am_lim call mX12_brings 7 [l0, l1, l2, l3] (S) σ := r_ifB 49 dX12_brings_4 (by decide) rfl
theorem eX12_brings_7 : am_lim call mX12_brings 7 [l0, some (.int x), l2, l3] (S) σ = am_lim call mX12_brings 8 [l0, some (.int x), l2, l3] (.int x :: S) σ := r_iload_n dX12_brings_7 rfl
theorem eX12_brings_8 : am_lim call mX12_brings 8 [l0, l1, some (.int x), l3] (S) σ = am_lim call mX12_brings 9 [l0, l1, some (.int x), l3] (.int x :: S) σ := r_iload_n dX12_brings_8 rfl
theorem eX12_brings_9 : am_lim call mX12_brings 9 [l0, l1, l2, l3] (.int y :: .int x :: S) σ = am_lim call mX12_brings 10 [l0, l1, l2, l3] (.int (x >>> (y &&& 31)) :: S) σ := r_ishr dX12_brings_9
theorem eX12_brings_10 : am_lim call mX12_brings 10 [l0, l1, l2, l3] (S) σ = am_lim call mX12_brings 13 [l0, l1, l2, l3] (.int 255 :: S) σ := r_sipush dX12_brings_10 (by decide)
theorem eX12_brings_13 : am_lim call mX12_brings 13 [l0, l1, l2, l3] (.int y :: .int x :: S) σ = am_lim call mX12_brings 14 [l0, l1, l2, l3] (.int (x &&& y) :: S) σ := r_iand dX12_brings_13
theorem eX12_brings_14 : am_lim call mX12_brings 14 [l0, l1, l2, l3] (.int x :: S) σ = am_lim call mX12_brings 15 [l0, l1, l2, some (.int x)] (S) σ := r_istore_n dX12_brings_14 rfl rfl rfl rfl
theorem eX12_brings_15 : am_lim call mX12_brings 15 [l0, l1, l2, some (.int x)] (S) σ = am_lim call mX12_brings 16 [l0, l1, l2, some (.int x)] (.int x :: S) σ := r_iload_n dX12_brings_15 rfl
theorem eX12_brings_16 : am_lim call mX12_brings 16 [l0, l1, l2, l3] (.int x :: S) σ = if x ≠ 0 then am_lim call mX12_brings 22 [l0, l1, l2, l3] (S) σ else am_lim call mX12_brings 19 [l0, l1, l2, l3] (S) σ := r_ifB 22 dX12_brings_16 (by decide) rfl
theorem eX12_brings_19 : am_lim call mX12_brings 19 [l0, l1, l2, l3] (S) σ = am_lim call mX12_brings 43 [l0, l1, l2, l3] (S) σ := r_goto 43 dX12_brings_19 (by decide)
theorem eX12_brings_43 : am_lim call mX12_brings 43 [l0, l1, some (.int x), l3] (S) σ = am_lim call mX12_brings 46 [l0, l1, some (.int (x + (-8))), l3] (S) σ := r_iinc dX12_brings_43 rfl (by decide) rfl rfl rfl rfl
theorem eX12_brings_46 : am_lim call mX12_brings 46 [l0, l1, l2, l3] (S) σ = am_lim call mX12_brings 3 [l0, l1, l2, l3] (S) σ := r_goto 3 dX12_brings_46 (by decide)
theorem eX12_brings_22 : am_lim call mX12_brings 22 [some (.ref a), l1, l2, l3] (S) σ = am_lim call mX12_brings 23 [some (.ref a), l1, l2, l3] (.ref a :: S) σ := r_aload_n dX12_brings_22 rfl
theorem eX12_brings_23 (h : g_o σ a 12) : am_lim call mX12_brings 23 [l0, l1, l2, l3] (.ref a :: S) σ = am_lim call mX12_brings 26 [l0, l1, l2, l3] (va_rf (g_R σ a 1) :: S) σ := r_getR dX12_brings_23 f_12_9 rfl h
theorem eX12_brings_26 : am_lim call mX12_brings 26 [some (.ref a), l1, l2, l3] (S) σ = am_lim call mX12_brings 27 [some (.ref a), l1, l2, l3] (.ref a :: S) σ := r_aload_n dX12_brings_26 rfl
theorem eX12_brings_27 (h : g_o σ a 12) : am_lim call mX12_brings 27 [l0, l1, l2, l3] (.ref a :: S) σ = am_lim call mX12_brings 30 [l0, l1, l2, l3] (.int (g_I σ a 2) :: S) σ := r_getI dX12_brings_27 f_12_116 rfl h
theorem eX12_brings_30 : am_lim call mX12_brings 30 [l0, l1, l2, some (.int x)] (S) σ = am_lim call mX12_brings 31 [l0, l1, l2, some (.int x)] (.int x :: S) σ := r_iload_n dX12_brings_30 rfl
theorem eX12_brings_31 : am_lim call mX12_brings 31 [l0, l1, l2, l3] (.int x :: S) σ = am_lim call mX12_brings 32 [l0, l1, l2, l3] (.int x.toInt8.toInt32 :: S) σ := r_i2b dX12_brings_31
theorem eX12_brings_32 {n : Nat} (h : g_b σ a n) (hi : am_in x n) : am_lim call mX12_brings 32 [l0, l1, l2, l3] (.int y :: .int x :: .ref a :: S) σ = am_lim call mX12_brings 33 [l0, l1, l2, l3] (S) (am_sI σ a x.toNatClampNeg (vp_nar .byte y)) := r_bast dX12_brings_32 h hi
theorem eX12_brings_33 : am_lim call mX12_brings 33 [some (.ref a), l1, l2, l3] (S) σ = am_lim call mX12_brings 34 [some (.ref a), l1, l2, l3] (.ref a :: S) σ := r_aload_n dX12_brings_33 rfl
theorem eX12_brings_34 : am_lim call mX12_brings 34 [l0, l1, l2, l3] (.ref a :: S) σ = am_lim call mX12_brings 35 [l0, l1, l2, l3] (.ref a :: .ref a :: S) σ := r_dupA dX12_brings_34
theorem eX12_brings_35 (h : g_o σ a 12) : am_lim call mX12_brings 35 [l0, l1, l2, l3] (.ref a :: S) σ = am_lim call mX12_brings 38 [l0, l1, l2, l3] (.int (g_I σ a 2) :: S) σ := r_getI dX12_brings_35 f_12_116 rfl h
theorem eX12_brings_38 : am_lim call mX12_brings 38 [l0, l1, l2, l3] (S) σ = am_lim call mX12_brings 39 [l0, l1, l2, l3] (.int 1 :: S) σ := r_iconst dX12_brings_38 (by decide)
theorem eX12_brings_39 : am_lim call mX12_brings 39 [l0, l1, l2, l3] (.int y :: .int x :: S) σ = am_lim call mX12_brings 40 [l0, l1, l2, l3] (.int (x + y) :: S) σ := r_iadd dX12_brings_39
theorem eX12_brings_40 (h : g_o σ a 12) : am_lim call mX12_brings 40 [l0, l1, l2, l3] (.int x :: .ref a :: S) σ = am_lim call mX12_brings 43 [l0, l1, l2, l3] (S) (am_sI σ a 2 x) := r_putI dX12_brings_40 f_12_116 rfl rfl h
theorem eX12_brings_49 : am_lim call mX12_brings 49 [l0, l1, l2, l3] ([]) σ = some (none, σ) := r_retV dX12_brings_49 rfl
theorem nX12_brings {d : Nat} : am_run (d + 1) mX12_brings [.ref b, .int v0] σ = am_lim (am_run d) mX12_brings 0 [some (.ref b), some (.int v0), none, none] [] σ := am_run_S rfl rfl rfl rfl
theorem dX11_feed_0 : decode cX11_feed 0 = .ok (.iload_n 1, 1) := by decide +kernel
theorem dX11_feed_1 : decode cX11_feed 1 = .ok (.invokestatic 82, 3) := by decide +kernel
theorem dX11_feed_4 : decode cX11_feed 4 = .ok (.iload_n 2, 1) := by decide +kernel
theorem dX11_feed_5 : decode cX11_feed 5 = .ok (.invokestatic 82, 3) := by decide +kernel
theorem dX11_feed_8 : decode cX11_feed 8 = .ok (.iadd, 1) := by decide +kernel
theorem dX11_feed_9 : decode cX11_feed 9 = .ok (.iload_n 3, 1) := by decide +kernel
theorem dX11_feed_10 : decode cX11_feed 10 = .ok (.invokestatic 82, 3) := by decide +kernel
theorem dX11_feed_13 : decode cX11_feed 13 = .ok (.iadd, 1) := by decide +kernel
theorem dX11_feed_14 : decode cX11_feed 14 = .ok (.iload 4, 2) := by decide +kernel
theorem dX11_feed_16 : decode cX11_feed 16 = .ok (.invokestatic 82, 3) := by decide +kernel
theorem dX11_feed_19 : decode cX11_feed 19 = .ok (.iadd, 1) := by decide +kernel
theorem dX11_feed_20 : decode cX11_feed 20 = .ok (.iload 5, 2) := by decide +kernel
theorem dX11_feed_22 : decode cX11_feed 22 = .ok (.invokestatic 82, 3) := by decide +kernel
theorem dX11_feed_25 : decode cX11_feed 25 = .ok (.iadd, 1) := by decide +kernel
theorem dX11_feed_26 : decode cX11_feed 26 = .ok (.istore 6, 2) := by decide +kernel
theorem dX11_feed_28 : decode cX11_feed 28 = .ok (.aload_n 0, 1) := by decide +kernel
theorem dX11_feed_29 : decode cX11_feed 29 = .ok (.getfield 41, 3) := by decide +kernel
theorem dX11_feed_32 : decode cX11_feed 32 = .ok (.getfield 86, 3) := by decide +kernel
theorem dX11_feed_35 : decode cX11_feed 35 = .ok (.iload 6, 2) := by decide +kernel
theorem dX11_feed_37 : decode cX11_feed 37 = .ok (.iadd, 1) := by decide +kernel
theorem dX11_feed_38 : decode cX11_feed 38 = .ok (.sipush 300, 3) := by decide +kernel
theorem dX11_feed_41 : decode cX11_feed 41 = .ok (.if_icmp .le 5, 3) := by decide +kernel
theorem dX11_feed_44 : decode cX11_feed 44 = .ok (.iconst (-1), 1) := by decide +kernel
theorem dX11_feed_45 : decode cX11_feed 45 = .ok (.ireturn, 1) := by decide +kernel
theorem dX11_feed_46 : decode cX11_feed 46 = .ok (.aload_n 0, 1) := by decide +kernel
theorem dX11_feed_47 : decode cX11_feed 47 = .ok (.getfield 41, 3) := by decide +kernel
theorem dX11_feed_50 : decode cX11_feed 50 = .ok (.iload_n 1, 1) := by decide +kernel
theorem dX11_feed_51 : decode cX11_feed 51 = .ok (.invokevirtual 89, 3) := by decide +kernel
theorem dX11_feed_54 : decode cX11_feed 54 = .ok (.aload_n 0, 1) := by decide +kernel
theorem dX11_feed_55 : decode cX11_feed 55 = .ok (.getfield 41, 3) := by decide +kernel
theorem dX11_feed_58 : decode cX11_feed 58 = .ok (.iload_n 2, 1) := by decide +kernel
theorem dX11_feed_59 : decode cX11_feed 59 = .ok (.invokevirtual 89, 3) := by decide +kernel
theorem dX11_feed_62 : decode cX11_feed 62 = .ok (.aload_n 0, 1) := by decide +kernel
theorem dX11_feed_63 : decode cX11_feed 63 = .ok (.getfield 41, 3) := by decide +kernel
theorem dX11_feed_66 : decode cX11_feed 66 = .ok (.iload_n 3, 1) := by decide +kernel
theorem dX11_feed_67 : decode cX11_feed 67 = .ok (.invokevirtual 89, 3) := by decide +kernel
theorem dX11_feed_70 : decode cX11_feed 70 = .ok (.aload_n 0, 1) := by decide +kernel
theorem dX11_feed_71 : decode cX11_feed 71 = .ok (.getfield 41, 3) := by decide +kernel
theorem dX11_feed_74 : decode cX11_feed 74 = .ok (.iload 4, 2) := by decide +kernel
theorem dX11_feed_76 : decode cX11_feed 76 = .ok (.invokevirtual 89, 3) := by decide +kernel
theorem dX11_feed_79 : decode cX11_feed 79 = .ok (.aload_n 0, 1) := by decide +kernel
theorem dX11_feed_80 : decode cX11_feed 80 = .ok (.getfield 41, 3) := by decide +kernel
theorem dX11_feed_83 : decode cX11_feed 83 = .ok (.iload 5, 2) := by decide +kernel
theorem dX11_feed_85 : decode cX11_feed 85 = .ok (.invokevirtual 89, 3) := by decide +kernel
theorem dX11_feed_88 : decode cX11_feed 88 = .ok (.aload_n 0, 1) := by decide +kernel
theorem dX11_feed_89 : decode cX11_feed 89 = .ok (.getfield 41, 3) := by decide +kernel
theorem dX11_feed_92 : decode cX11_feed 92 = .ok (.getfield 86, 3) := by decide +kernel
theorem dX11_feed_95 : decode cX11_feed 95 = .ok (.ireturn, 1) := by decide +kernel
theorem eX11_feed_0 : am_lim call mX11_feed 0 [l0, some (.int x), l2, l3, l4, l5, l6] (S) σ = am_lim call mX11_feed 1 [l0, some (.int x), l2, l3, l4, l5, l6] (.int x :: S) σ := r_iload_n dX11_feed_0 rfl
theorem eX11_feed_1 : am_lim call mX11_feed 1 [l0, l1, l2, l3, l4, l5, l6] (.int v0 :: []) σ = am_k (call mX3_bytesIn [.int v0] σ) (fun r σ1 => am_lim call mX11_feed 4 [l0, l1, l2, l3, l4, l5, l6] (r.toList ++ []) σ1) := r_kS (S1 := [.int v0]) dX11_feed_1 ⟨rfl, rfl, rfl⟩ mt_11_82 rfl (Nat.le_of_ble_eq_true rfl)
theorem eX11_feed_4 : am_lim call mX11_feed 4 [l0, l1, some (.int x), l3, l4, l5, l6] (S) σ = am_lim call mX11_feed 5 [l0, l1, some (.int x), l3, l4, l5, l6] (.int x :: S) σ := r_iload_n dX11_feed_4 rfl
theorem eX11_feed_5 : am_lim call mX11_feed 5 [l0, l1, l2, l3, l4, l5, l6] (.int v0 :: .int s0 :: []) σ = am_k (call mX3_bytesIn [.int v0] σ) (fun r σ1 => am_lim call mX11_feed 8 [l0, l1, l2, l3, l4, l5, l6] (r.toList ++ .int s0 :: []) σ1) := r_kS (S1 := [.int v0]) dX11_feed_5 ⟨rfl, rfl, rfl⟩ mt_11_82 rfl (Nat.le_of_ble_eq_true rfl)
theorem eX11_feed_8 : am_lim call mX11_feed 8 [l0, l1, l2, l3, l4, l5, l6] (.int y :: .int x :: S) σ = am_lim call mX11_feed 9 [l0, l1, l2, l3, l4, l5, l6] (.int (x + y) :: S) σ := r_iadd dX11_feed_8
theorem eX11_feed_9 : am_lim call mX11_feed 9 [l0, l1, l2, some (.int x), l4, l5, l6] (S) σ = am_lim call mX11_feed 10 [l0, l1, l2, some (.int x), l4, l5, l6] (.int x :: S) σ := r_iload_n dX11_feed_9 rfl
theorem eX11_feed_10 : am_lim call mX11_feed 10 [l0, l1, l2, l3, l4, l5, l6] (.int v0 :: .int s0 :: []) σ = am_k (call mX3_bytesIn [.int v0] σ) (fun r σ1 => am_lim call mX11_feed 13 [l0, l1, l2, l3, l4, l5, l6] (r.toList ++ .int s0 :: []) σ1) := r_kS (S1 := [.int v0]) dX11_feed_10 ⟨rfl, rfl, rfl⟩ mt_11_82 rfl (Nat.le_of_ble_eq_true rfl)
theorem eX11_feed_13 : am_lim call mX11_feed 13 [l0, l1, l2, l3, l4, l5, l6] (.int y :: .int x :: S) σ = am_lim call mX11_feed 14 [l0, l1, l2, l3, l4, l5, l6] (.int (x + y) :: S) σ := r_iadd dX11_feed_13
theorem eX11_feed_14 : am_lim call mX11_feed 14 [l0, l1, l2, l3, some (.int x), l5, l6] (S) σ = am_lim call mX11_feed 16 [l0, l1, l2, l3, some (.int x), l5, l6] (.int x :: S) σ := r_iload dX11_feed_14 rfl
theorem eX11_feed_16 : am_lim call mX11_feed 16 [l0, l1, l2, l3, l4, l5, l6] (.int v0 :: .int s0 :: []) σ = am_k (call mX3_bytesIn [.int v0] σ) (fun r σ1 => am_lim call mX11_feed 19 [l0, l1, l2, l3, l4, l5, l6] (r.toList ++ .int s0 :: []) σ1) := r_kS (S1 := [.int v0]) dX11_feed_16 ⟨rfl, rfl, rfl⟩ mt_11_82 rfl (Nat.le_of_ble_eq_true rfl)
theorem eX11_feed_19 : am_lim call mX11_feed 19 [l0, l1, l2, l3, l4, l5, l6] (.int y :: .int x :: S) σ = am_lim call mX11_feed 20 [l0, l1, l2, l3, l4, l5, l6] (.int (x + y) :: S) σ := r_iadd dX11_feed_19
theorem eX11_feed_20 : am_lim call mX11_feed 20 [l0, l1, l2, l3, l4, some (.int x), l6] (S) σ = am_lim call mX11_feed 22 [l0, l1, l2, l3, l4, some (.int x), l6] (.int x :: S) σ := r_iload dX11_feed_20 rfl
theorem eX11_feed_22 : am_lim call mX11_feed 22 [l0, l1, l2, l3, l4, l5, l6] (.int v0 :: .int s0 :: []) σ = am_k (call mX3_bytesIn [.int v0] σ) (fun r σ1 => am_lim call mX11_feed 25 [l0, l1, l2, l3, l4, l5, l6] (r.toList ++ .int s0 :: []) σ1) := r_kS (S1 := [.int v0]) dX11_feed_22 ⟨rfl, rfl, rfl⟩ mt_11_82 rfl (Nat.le_of_ble_eq_true rfl)
theorem eX11_feed_25 : am_lim call mX11_feed 25 [l0, l1, l2, l3, l4, l5, l6] (.int y :: .int x :: S) σ = am_lim call mX11_feed 26 [l0, l1, l2, l3, l4, l5, l6] (.int (x + y) :: S) σ := r_iadd dX11_feed_25
theorem eX11_feed_26 : am_lim call mX11_feed 26 [l0, l1, l2, l3, l4, l5, l6] (.int x :: S) σ = am_lim call mX11_feed 28 [l0, l1, l2, l3, l4, l5, some (.int x)] (S) σ := r_istore dX11_feed_26 rfl rfl rfl rfl
theorem eX11_feed_28 : am_lim call mX11_feed 28 [some (.ref a), l1, l2, l3, l4, l5, l6] (S) σ = am_lim call mX11_feed 29 [some (.ref a), l1, l2, l3, l4, l5, l6] (.ref a :: S) σ := r_aload_n dX11_feed_28 rfl
theorem eX11_feed_29 (h : g_o σ a 11) : am_lim call mX11_feed 29 [l0, l1, l2, l3, l4, l5, l6] (.ref a :: S) σ = am_lim call mX11_feed 32 [l0, l1, l2, l3, l4, l5, l6] (va_rf (g_R σ a 0) :: S) σ := r_getR dX11_feed_29 f_11_41 rfl h
theorem eX11_feed_32 (h : g_o σ a 3) : am_lim call mX11_feed 32 [l0, l1, l2, l3, l4, l5, l6] (.ref a :: S) σ = am_lim call mX11_feed 35 [l0, l1, l2, l3, l4, l5, l6] (.int (g_I σ a 0) :: S) σ := r_getI dX11_feed_32 f_11_86 rfl h
theorem eX11_feed_35 : am_lim call mX11_feed 35 [l0, l1, l2, l3, l4, l5, some (.int x)] (S) σ = am_lim call mX11_feed 37 [l0, l1, l2, l3, l4, l5, some (.int x)] (.int x :: S) σ := r_iload dX11_feed_35 rfl
theorem eX11_feed_37 : am_lim call mX11_feed 37 [l0, l1, l2, l3, l4, l5, l6] (.int y :: .int x :: S) σ = am_lim call mX11_feed 38 [l0, l1, l2, l3, l4, l5, l6] (.int (x + y) :: S) σ := r_iadd dX11_feed_37
theorem eX11_feed_38 : am_lim call mX11_feed 38 [l0, l1, l2, l3, l4, l5, l6] (S) σ = am_lim call mX11_feed 41 [l0, l1, l2, l3, l4, l5, l6] (.int 300 :: S) σ := r_sipush dX11_feed_38 (by decide)
theorem eX11_feed_41 : am_lim call mX11_feed 41 [l0, l1, l2, l3, l4, l5, l6] (.int y :: .int x :: S) σ = if x ≤ y then am_lim call mX11_feed 46 [l0, l1, l2, l3, l4, l5, l6] (S) σ else am_lim call mX11_feed 44 [l0, l1, l2, l3, l4, l5, l6] (S) σ := r_icmpB 46 dX11_feed_41 (by decide) rfl
theorem eX11_feed_44 : am_lim call mX11_feed 44 [l0, l1, l2, l3, l4, l5, l6] (S) σ = am_lim call mX11_feed 45 [l0, l1, l2, l3, l4, l5, l6] (.int (-1) :: S) σ := r_iconst dX11_feed_44 (by decide)
theorem eX11_feed_45 : am_lim call mX11_feed 45 [l0, l1, l2, l3, l4, l5, l6] ([.int x]) σ = some (some (.int x), σ) := r_retI dX11_feed_45 rfl
theorem eX11_feed_46 : am_lim call mX11_feed 46 [some (.ref a), l1, l2, l3, l4, l5, l6] (S) σ = am_lim call mX11_feed 47 [some (.ref a), l1, l2, l3, l4, l5, l6] (.ref a :: S) σ := r_aload_n dX11_feed_46 rfl
theorem eX11_feed_47 (h : g_o σ a 11) : am_lim call mX11_feed 47 [l0, l1, l2, l3, l4, l5, l6] (.ref a :: S) σ = am_lim call mX11_feed 50 [l0, l1, l2, l3, l4, l5, l6] (va_rf (g_R σ a 0) :: S) σ := r_getR dX11_feed_47 f_11_41 rfl h
theorem eX11_feed_50 : am_lim call mX11_feed 50 [l0, some (.int x), l2, l3, l4, l5, l6] (S) σ = am_lim call mX11_feed 51 [l0, some (.int x), l2, l3, l4, l5, l6] (.int x :: S) σ := r_iload_n dX11_feed_50 rfl
theorem eX11_feed_51 (h : g_o σ b 3) : am_lim call mX11_feed 51 [l0, l1, l2, l3, l4, l5, l6] (.int v0 :: .ref b :: []) σ = am_k (call mX3_put [.ref b, .int v0] σ) (fun r σ1 => am_lim call mX11_feed 54 [l0, l1, l2, l3, l4, l5, l6] (r.toList ++ []) σ1) := r_kV (S1 := [.int v0]) dX11_feed_51 mt_11_89 rfl h (Nat.le_of_ble_eq_true rfl)
theorem eX11_feed_54 : am_lim call mX11_feed 54 [some (.ref a), l1, l2, l3, l4, l5, l6] (S) σ = am_lim call mX11_feed 55 [some (.ref a), l1, l2, l3, l4, l5, l6] (.ref a :: S) σ := r_aload_n dX11_feed_54 rfl
theorem eX11_feed_55 (h : g_o σ a 11) : am_lim call mX11_feed 55 [l0, l1, l2, l3, l4, l5, l6] (.ref a :: S) σ = am_lim call mX11_feed 58 [l0, l1, l2, l3, l4, l5, l6] (va_rf (g_R σ a 0) :: S) σ := r_getR dX11_feed_55 f_11_41 rfl h
theorem eX11_feed_58 : am_lim call mX11_feed 58 [l0, l1, some (.int x), l3, l4, l5, l6] (S) σ = am_lim call mX11_feed 59 [l0, l1, some (.int x), l3, l4, l5, l6] (.int x :: S) σ := r_iload_n dX11_feed_58 rfl
theorem eX11_feed_59 (h : g_o σ b 3) : am_lim call mX11_feed 59 [l0, l1, l2, l3, l4, l5, l6] (.int v0 :: .ref b :: []) σ = am_k (call mX3_put [.ref b, .int v0] σ) (fun r σ1 => am_lim call mX11_feed 62 [l0, l1, l2, l3, l4, l5, l6] (r.toList ++ []) σ1) := r_kV (S1 := [.int v0]) dX11_feed_59 mt_11_89 rfl h (Nat.le_of_ble_eq_true rfl)
theorem eX11_feed_62 : am_lim call mX11_feed 62 [some (.ref a), l1, l2, l3, l4, l5, l6] (S) σ = am_lim call mX11_feed 63 [some (.ref a), l1, l2, l3, l4, l5, l6] (.ref a :: S) σ := r_aload_n dX11_feed_62 rfl
theorem eX11_feed_63 (h : g_o σ a 11) : am_lim call mX11_feed 63 [l0, l1, l2, l3, l4, l5, l6] (.ref a :: S) σ = am_lim call mX11_feed 66 [l0, l1, l2, l3, l4, l5, l6] (va_rf (g_R σ a 0) :: S) σ := r_getR dX11_feed_63 f_11_41 rfl h
theorem eX11_feed_66 : am_lim call mX11_feed 66 [l0, l1, l2, some (.int x), l4, l5, l6] (S) σ = am_lim call mX11_feed 67 [l0, l1, l2, some (.int x), l4, l5, l6] (.int x :: S) σ := r_iload_n dX11_feed_66 rfl
theorem eX11_feed_67 (h : g_o σ b 3) : am_lim call mX11_feed 67 [l0, l1, l2, l3, l4, l5, l6] (.int v0 :: .ref b :: []) σ = am_k (call mX3_put [.ref b, .int v0] σ) (fun r σ1 => am_lim call mX11_feed 70 [l0, l1, l2, l3, l4, l5, l6] (r.toList ++ []) σ1) := r_kV (S1 := [.int v0]) dX11_feed_67 mt_11_89 rfl h (Nat.le_of_ble_eq_true rfl)
theorem eX11_feed_70 : am_lim call mX11_feed 70 [some (.ref a), l1, l2, l3, l4, l5, l6] (S) σ = am_lim call mX11_feed 71 [some (.ref a), l1, l2, l3, l4, l5, l6] (.ref a :: S) σ := r_aload_n dX11_feed_70 rfl
theorem eX11_feed_71 (h : g_o σ a 11) : am_lim call mX11_feed 71 [l0, l1, l2, l3, l4, l5, l6] (.ref a :: S) σ = am_lim call mX11_feed 74 [l0, l1, l2, l3, l4, l5, l6] (va_rf (g_R σ a 0) :: S) σ := r_getR dX11_feed_71 f_11_41 rfl h
theorem eX11_feed_74 : am_lim call mX11_feed 74 [l0, l1, l2, l3, some (.int x), l5, l6] (S) σ = am_lim call mX11_feed 76 [l0, l1, l2, l3, some (.int x), l5, l6] (.int x :: S) σ := r_iload dX11_feed_74 rfl
theorem eX11_feed_76 (h : g_o σ b 3) : am_lim call mX11_feed 76 [l0, l1, l2, l3, l4, l5, l6] (.int v0 :: .ref b :: []) σ = am_k (call mX3_put [.ref b, .int v0] σ) (fun r σ1 => am_lim call mX11_feed 79 [l0, l1, l2, l3, l4, l5, l6] (r.toList ++ []) σ1) := r_kV (S1 := [.int v0]) dX11_feed_76 mt_11_89 rfl h (Nat.le_of_ble_eq_true rfl)
theorem eX11_feed_79 : am_lim call mX11_feed 79 [some (.ref a), l1, l2, l3, l4, l5, l6] (S) σ = am_lim call mX11_feed 80 [some (.ref a), l1, l2, l3, l4, l5, l6] (.ref a :: S) σ := r_aload_n dX11_feed_79 rfl
theorem eX11_feed_80 (h : g_o σ a 11) : am_lim call mX11_feed 80 [l0, l1, l2, l3, l4, l5, l6] (.ref a :: S) σ = am_lim call mX11_feed 83 [l0, l1, l2, l3, l4, l5, l6] (va_rf (g_R σ a 0) :: S) σ := r_getR dX11_feed_80 f_11_41 rfl h
theorem eX11_feed_83 : am_lim call mX11_feed 83 [l0, l1, l2, l3, l4, some (.int x), l6] (S) σ = am_lim call mX11_feed 85 [l0, l1, l2, l3, l4, some (.int x), l6] (.int x :: S) σ := r_iload dX11_feed_83 rfl
theorem eX11_feed_85 (h : g_o σ b 3) : am_lim call mX11_feed 85 [l0, l1, l2, l3, l4, l5, l6] (.int v0 :: .ref b :: []) σ = am_k (call mX3_put [.ref b, .int v0] σ) (fun r σ1 => am_lim call mX11_feed 88 [l0, l1, l2, l3, l4, l5, l6] (r.toList ++ []) σ1) := r_kV (S1 := [.int v0]) dX11_feed_85 mt_11_89 rfl h (Nat.le_of_ble_eq_true rfl)
theorem eX11_feed_88 : am_lim call mX11_feed 88 [some (.ref a), l1, l2, l3, l4, l5, l6] (S) σ = am_lim call mX11_feed 89 [some (.ref a), l1, l2, l3, l4, l5, l6] (.ref a :: S) σ := r_aload_n dX11_feed_88 rfl
theorem eX11_feed_89 (h : g_o σ a 11) : am_lim call mX11_feed 89 [l0, l1, l2, l3, l4, l5, l6] (.ref a :: S) σ = am_lim call mX11_feed 92 [l0, l1, l2, l3, l4, l5, l6] (va_rf (g_R σ a 0) :: S) σ := r_getR dX11_feed_89 f_11_41 rfl h
theorem eX11_feed_92 (h : g_o σ a 3) : am_lim call mX11_feed 92 [l0, l1, l2, l3, l4, l5, l6] (.ref a :: S) σ = am_lim call mX11_feed 95 [l0, l1, l2, l3, l4, l5, l6] (.int (g_I σ a 0) :: S) σ := r_getI dX11_feed_92 f_11_86 rfl h
theorem eX11_feed_95 : am_lim call mX11_feed 95 [l0, l1, l2, l3, l4, l5, l6] ([.int x]) σ = some (some (.int x), σ) := r_retI dX11_feed_95 rfl
theorem nX11_feed {d : Nat} : am_run (d + 1) mX11_feed [.ref b, .int v0, .int v1, .int v2, .int v3, .int v4] σ = am_lim (am_run d) mX11_feed 0 [some (.ref b), some (.int v0), some (.int v1), some (.int v2), some (.int v3), some (.int v4), none] [] σ := am_run_S rfl rfl rfl rfl
theorem dX12_feed_0 : decode cX12_feed 0 = .ok (.aload_n 0, 1) := by decide +kernel
theorem dX12_feed_1 : decode cX12_feed 1 = .ok (.iconst 0, 1) := by decide +kernel
theorem dX12_feed_2 : decode cX12_feed 2 = .ok (.putfield 113, 3) := by decide +kernel
theorem dX12_feed_5 : decode cX12_feed 5 = .ok (.aload_n 0, 1) := by decide +kernel
theorem dX12_feed_6 : decode cX12_feed 6 = .ok (.getfield 116, 3) := by decide +kernel
theorem dX12_feed_9 : decode cX12_feed 9 = .ok (.iload_n 1, 1) := by decide +kernel
theorem dX12_feed_10 : decode cX12_feed 10 = .ok (.invokestatic 119, 3) := by decide +kernel
theorem dX12_feed_13 : decode cX12_feed 13 = .ok (.iadd, 1) := by decide +kernel
theorem dX12_feed_14 : decode cX12_feed 14 = .ok (.iload_n 2, 1) := by decide +kernel
theorem dX12_feed_15 : decode cX12_feed 15 = .ok (.invokestatic 119, 3) := by decide +kernel
theorem dX12_feed_18 : decode cX12_feed 18 = .ok (.iadd, 1) := by decide +kernel
theorem dX12_feed_19 : decode cX12_feed 19 = .ok (.iload_n 3, 1) := by decide +kernel
theorem dX12_feed_20 : decode cX12_feed 20 = .ok (.invokestatic 119, 3) := by decide +kernel
theorem dX12_feed_23 : decode cX12_feed 23 = .ok (.iadd, 1) := by decide +kernel
theorem dX12_feed_24 : decode cX12_feed 24 = .ok (.iload 4, 2) := by decide +kernel
theorem dX12_feed_26 : decode cX12_feed 26 = .ok (.invokestatic 119, 3) := by decide +kernel
theorem dX12_feed_29 : decode cX12_feed 29 = .ok (.iadd, 1) := by decide +kernel
theorem dX12_feed_30 : decode cX12_feed 30 = .ok (.iload 5, 2) := by decide +kernel
theorem dX12_feed_32 : decode cX12_feed 32 = .ok (.invokestatic 119, 3) := by decide +kernel
theorem dX12_feed_35 : decode cX12_feed 35 = .ok (.iadd, 1) := by decide +kernel
theorem dX12_feed_36 : decode cX12_feed 36 = .ok (.sipush 300, 3) := by decide +kernel
theorem dX12_feed_39 : decode cX12_feed 39 = .ok (.if_icmp .le 5, 3) := by decide +kernel
theorem dX12_feed_42 : decode cX12_feed 42 = .ok (.iconst (-1), 1) := by decide +kernel
theorem dX12_feed_43 : decode cX12_feed 43 = .ok (.ireturn, 1) := by decide +kernel
theorem dX12_feed_44 : decode cX12_feed 44 = .ok (.aload_n 0, 1) := by decide +kernel
theorem dX12_feed_45 : decode cX12_feed 45 = .ok (.iload_n 1, 1) := by decide +kernel
theorem dX12_feed_46 : decode cX12_feed 46 = .ok (.invokevirtual 123, 3) := by decide +kernel
theorem dX12_feed_49 : decode cX12_feed 49 = .ok (.aload_n 0, 1) := by decide +kernel
theorem dX12_feed_50 : decode cX12_feed 50 = .ok (.iload_n 2, 1) := by decide +kernel
theorem dX12_feed_51 : decode cX12_feed 51 = .ok (.invokevirtual 123, 3) := by decide +kernel
theorem dX12_feed_54 : decode cX12_feed 54 = .ok (.aload_n 0, 1) := by decide +kernel
theorem dX12_feed_55 : decode cX12_feed 55 = .ok (.iload_n 3, 1) := by decide +kernel
theorem dX12_feed_56 : decode cX12_feed 56 = .ok (.invokevirtual 123, 3) := by decide +kernel
theorem dX12_feed_59 : decode cX12_feed 59 = .ok (.aload_n 0, 1) := by decide +kernel
theorem dX12_feed_60 : decode cX12_feed 60 = .ok (.iload 4, 2) := by decide +kernel
theorem dX12_feed_62 : decode cX12_feed 62 = .ok (.invokevirtual 123, 3) := by decide +kernel
theorem dX12_feed_65 : decode cX12_feed 65 = .ok (.aload_n 0, 1) := by decide +kernel
theorem dX12_feed_66 : decode cX12_feed 66 = .ok (.iload 5, 2) := by decide +kernel
theorem dX12_feed_68 : decode cX12_feed 68 = .ok (.invokevirtual 123, 3) := by decide +kernel
theorem dX12_feed_71 : decode cX12_feed 71 = .ok (.aload_n 0, 1) := by decide +kernel
theorem dX12_feed_72 : decode cX12_feed 72 = .ok (.getfield 116, 3) := by decide +kernel
theorem dX12_feed_75 : decode cX12_feed 75 = .ok (.ireturn, 1) := by decide +kernel
theorem eX12_feed_0 : am_lim call mX12_feed 0 [some (.ref a), l1, l2, l3, l4, l5] (S) σ = am_lim call mX12_feed 1 [some (.ref a), l1, l2, l3, l4, l5] (.ref a :: S) σ := r_aload_n dX12_feed_0 rfl
theorem eX12_feed_1 : am_lim call mX12_feed 1 [l0, l1, l2, l3, l4, l5] (S) σ = am_lim call mX12_feed 2 [l0, l1, l2, l3, l4, l5] (.int 0 :: S) σ := r_iconst dX12_feed_1 (by decide)
theorem eX12_feed_2 (h : g_o σ a 12) : am_lim call mX12_feed 2 [l0, l1, l2, l3, l4, l5] (.int x :: .ref a :: S) σ = am_lim call mX12_feed 5 [l0, l1, l2, l3, l4, l5] (S) (am_sI σ a 0 x) := r_putI dX12_feed_2 f_12_113 rfl rfl h
theorem eX12_feed_5 : am_lim call mX12_feed 5 [some (.ref a), l1, l2, l3, l4, l5] (S) σ = am_lim call mX12_feed 6 [some (.ref a), l1, l2, l3, l4, l5] (.ref a :: S) σ := r_aload_n dX12_feed_5 rfl
theorem eX12_feed_6 (h : g_o σ a 12) : am_lim call mX12_feed 6 [l0, l1, l2, l3, l4, l5] (.ref a :: S) σ = am_lim call mX12_feed 9 [l0, l1, l2, l3, l4, l5] (.int (g_I σ a 2) :: S) σ := r_getI dX12_feed_6 f_12_116 rfl h
theorem eX12_feed_9 : am_lim call mX12_feed 9 [l0, some (.int x), l2, l3, l4, l5] (S) σ = am_lim call mX12_feed 10 [l0, some (.int x), l2, l3, l4, l5] (.int x :: S) σ := r_iload_n dX12_feed_9 rfl
theorem eX12_feed_10 : am_lim call mX12_feed 10 [l0, l1, l2, l3, l4, l5] (.int v0 :: .int s0 :: []) σ = am_k (call mX12_bytesOf [.int v0] σ) (fun r σ1 => am_lim call mX12_feed 13 [l0, l1, l2, l3, l4, l5] (r.toList ++ .int s0 :: []) σ1) := r_kS (S1 := [.int v0]) dX12_feed_10 ⟨rfl, rfl, rfl⟩ mt_12_119 rfl (Nat.le_of_ble_eq_true rfl)
theorem eX12_feed_13 : am_lim call mX12_feed 13 [l0, l1, l2, l3, l4, l5] (.int y :: .int x :: S) σ = am_lim call mX12_feed 14 [l0, l1, l2, l3, l4, l5] (.int (x + y) :: S) σ := r_iadd dX12_feed_13
theorem eX12_feed_14 : am_lim call mX12_feed 14 [l0, l1, some (.int x), l3, l4, l5] (S) σ = am_lim call mX12_feed 15 [l0, l1, some (.int x), l3, l4, l5] (.int x :: S) σ := r_iload_n dX12_feed_14 rfl
theorem eX12_feed_15 : am_lim call mX12_feed 15 [l0, l1, l2, l3, l4, l5] (.int v0 :: .int s0 :: []) σ = am_k (call mX12_bytesOf [.int v0] σ) (fun r σ1 => am_lim call mX12_feed 18 [l0, l1, l2, l3, l4, l5] (r.toList ++ .int s0 :: []) σ1) := r_kS (S1 := [.int v0]) dX12_feed_15 ⟨rfl, rfl, rfl⟩ mt_12_119 rfl (Nat.le_of_ble_eq_true rfl)
theorem eX12_feed_18 : am_lim call mX12_feed 18 [l0, l1, l2, l3, l4, l5] (.int y :: .int x :: S) σ = am_lim call mX12_feed 19 [l0, l1, l2, l3, l4, l5] (.int (x + y) :: S) σ := r_iadd dX12_feed_18
theorem eX12_feed_19 : am_lim call mX12_feed 19 [l0, l1, l2, some (.int x), l4, l5] (S) σ = am_lim call mX12_feed 20 [l0, l1, l2, some (.int x), l4, l5] (.int x :: S) σ := r_iload_n dX12_feed_19 rfl
theorem eX12_feed_20 : am_lim call mX12_feed 20 [l0, l1, l2, l3, l4, l5] (.int v0 :: .int s0 :: []) σ = am_k (call mX12_bytesOf [.int v0] σ) (fun r σ1 => am_lim call mX12_feed 23 [l0, l1, l2, l3, l4, l5] (r.toList ++ .int s0 :: []) σ1) := r_kS (S1 := [.int v0]) dX12_feed_20 ⟨rfl, rfl, rfl⟩ mt_12_119 rfl (Nat.le_of_ble_eq_true rfl)
theorem eX12_feed_23 : am_lim call mX12_feed 23 [l0, l1, l2, l3, l4, l5] (.int y :: .int x :: S) σ = am_lim call mX12_feed 24 [l0, l1, l2, l3, l4, l5] (.int (x + y) :: S) σ := r_iadd dX12_feed_23
theorem eX12_feed_24 : am_lim call mX12_feed 24 [l0, l1, l2, l3, some (.int x), l5] (S) σ = am_lim call mX12_feed 26 [l0, l1, l2, l3, some (.int x), l5] (.int x :: S) σ := r_iload dX12_feed_24 rfl
theorem eX12_feed_26 : am_lim call mX12_feed 26 [l0, l1, l2, l3, l4, l5] (.int v0 :: .int s0 :: []) σ = am_k (call mX12_bytesOf [.int v0] σ) (fun r σ1 => am_lim call mX12_feed 29 [l0, l1, l2, l3, l4, l5] (r.toList ++ .int s0 :: []) σ1) := r_kS (S1 := [.int v0]) dX12_feed_26 ⟨rfl, rfl, rfl⟩ mt_12_119 rfl (Nat.le_of_ble_eq_true rfl)
theorem eX12_feed_29 : am_lim call mX12_feed 29 [l0, l1, l2, l3, l4, l5] (.int y :: .int x :: S) σ = am_lim call mX12_feed 30 [l0, l1, l2, l3, l4, l5] (.int (x + y) :: S) σ := r_iadd dX12_feed_29
theorem eX12_feed_30 : am_lim call mX12_feed 30 [l0, l1, l2, l3, l4, some (.int x)] (S) σ = am_lim call mX12_feed 32 [l0, l1, l2, l3, l4, some (.int x)] (.int x :: S) σ := r_iload dX12_feed_30 rfl
theorem eX12_feed_32 : am_lim call mX12_feed 32 [l0, l1, l2, l3, l4, l5] (.int v0 :: .int s0 :: []) σ = am_k (call mX12_bytesOf [.int v0] σ) (fun r σ1 => am_lim call mX12_feed 35 [l0, l1, l2, l3, l4, l5] (r.toList ++ .int s0 :: []) σ1) := r_kS (S1 := [.int v0]) dX12_feed_32 ⟨rfl, rfl, rfl⟩ mt_12_119 rfl (Nat.le_of_ble_eq_true rfl)
theorem eX12_feed_35 : am_lim call mX12_feed 35 [l0, l1, l2, l3, l4, l5] (.int y :: .int x :: S) σ = am_lim call mX12_feed 36 [l0, l1, l2, l3, l4, l5] (.int (x + y) :: S) σ := r_iadd dX12_feed_35
theorem eX12_feed_36 : am_lim call mX12_feed 36 [l0, l1, l2, l3, l4, l5] (S) σ = am_lim call mX12_feed 39 [l0, l1, l2, l3, l4, l5] (.int 300 :: S) σ := r_sipush dX12_feed_36 (by decide)
theorem eX12_feed_39 : am_lim call mX12_feed 39 [l0, l1, l2, l3, l4, l5] (.int y :: .int x :: S) σ = if x ≤ y then am_lim call mX12_feed 44 [l0, l1, l2, l3, l4, l5] (S) σ else am_lim call mX12_feed 42 [l0, l1, l2, l3, l4, l5] (S) σ := r_icmpB 44 dX12_feed_39 (by decide) rfl
theorem eX12_feed_42 : am_lim call mX12_feed 42 [l0, l1, l2, l3, l4, l5] (S) σ = am_lim call mX12_feed 43 [l0, l1, l2, l3, l4, l5] (.int (-1) :: S) σ := r_iconst dX12_feed_42 (by decide)
theorem eX12_feed_43 : am_lim call mX12_feed 43 [l0, l1, l2, l3, l4, l5] ([.int x]) σ = some (some (.int x), σ) := r_retI dX12_feed_43 rfl
theorem eX12_feed_44 : am_lim call mX12_feed 44 [some (.ref a), l1, l2, l3, l4, l5] (S) σ = am_lim call mX12_feed 45 [some (.ref a), l1, l2, l3, l4, l5] (.ref a :: S) σ := r_aload_n dX12_feed_44 rfl
theorem eX12_feed_45 : am_lim call mX12_feed 45 [l0, some (.int x), l2, l3, l4, l5] (S) σ = am_lim call mX12_feed 46 [l0, some (.int x), l2, l3, l4, l5] (.int x :: S) σ := r_iload_n dX12_feed_45 rfl
theorem eX12_feed_46 (h : g_o σ b 12) : am_lim call mX12_feed 46 [l0, l1, l2, l3, l4, l5] (.int v0 :: .ref b :: []) σ = am_k (call mX12_brings [.ref b, .int v0] σ) (fun r σ1 => am_lim call mX12_feed 49 [l0, l1, l2, l3, l4, l5] (r.toList ++ []) σ1) := r_kV (S1 := [.int v0]) dX12_feed_46 mt_12_123 rfl h (Nat.le_of_ble_eq_true rfl)
theorem eX12_feed_49 : am_lim call mX12_feed 49 [some (.ref a), l1, l2, l3, l4, l5] (S) σ = am_lim call mX12_feed 50 [some (.ref a), l1, l2, l3, l4, l5] (.ref a :: S) σ := r_aload_n dX12_feed_49 rfl
theorem eX12_feed_50 : am_lim call mX12_feed 50 [l0, l1, some (.int x), l3, l4, l5] (S) σ = am_lim call mX12_feed 51 [l0, l1, some (.int x), l3, l4, l5] (.int x :: S) σ := r_iload_n dX12_feed_50 rfl
theorem eX12_feed_51 (h : g_o σ b 12) : am_lim call mX12_feed 51 [l0, l1, l2, l3, l4, l5] (.int v0 :: .ref b :: []) σ = am_k (call mX12_brings [.ref b, .int v0] σ) (fun r σ1 => am_lim call mX12_feed 54 [l0, l1, l2, l3, l4, l5] (r.toList ++ []) σ1) := r_kV (S1 := [.int v0]) dX12_feed_51 mt_12_123 rfl h (Nat.le_of_ble_eq_true rfl)
theorem eX12_feed_54 : am_lim call mX12_feed 54 [some (.ref a), l1, l2, l3, l4, l5] (S) σ = am_lim call mX12_feed 55 [some (.ref a), l1, l2, l3, l4, l5] (.ref a :: S) σ := r_aload_n dX12_feed_54 rfl
theorem eX12_feed_55 : am_lim call mX12_feed 55 [l0, l1, l2, some (.int x), l4, l5] (S) σ = am_lim call mX12_feed 56 [l0, l1, l2, some (.int x), l4, l5] (.int x :: S) σ := r_iload_n dX12_feed_55 rfl
theorem eX12_feed_56 (h : g_o σ b 12) : am_lim call mX12_feed 56 [l0, l1, l2, l3, l4, l5] (.int v0 :: .ref b :: []) σ = am_k (call mX12_brings [.ref b, .int v0] σ) (fun r σ1 => am_lim call mX12_feed 59 [l0, l1, l2, l3, l4, l5] (r.toList ++ []) σ1) := r_kV (S1 := [.int v0]) dX12_feed_56 mt_12_123 rfl h (Nat.le_of_ble_eq_true rfl)
theorem eX12_feed_59 : am_lim call mX12_feed 59 [some (.ref a), l1, l2, l3, l4, l5] (S) σ = am_lim call mX12_feed 60 [some (.ref a), l1, l2, l3, l4, l5] (.ref a :: S) σ := r_aload_n dX12_feed_59 rfl
theorem eX12_feed_60 : am_lim call mX12_feed 60 [l0, l1, l2, l3, some (.int x), l5] (S) σ = am_lim call mX12_feed 62 [l0, l1, l2, l3, some (.int x), l5] (.int x :: S) σ := r_iload dX12_feed_60 rfl
theorem eX12_feed_62 (h : g_o σ b 12) : am_lim call mX12_feed 62 [l0, l1, l2, l3, l4, l5] (.int v0 :: .ref b :: []) σ = am_k (call mX12_brings [.ref b, .int v0] σ) (fun r σ1 => am_lim call mX12_feed 65 [l0, l1, l2, l3, l4, l5] (r.toList ++ []) σ1) := r_kV (S1 := [.int v0]) dX12_feed_62 mt_12_123 rfl h (Nat.le_of_ble_eq_true rfl)
theorem eX12_feed_65 : am_lim call mX12_feed 65 [some (.ref a), l1, l2, l3, l4, l5] (S) σ = am_lim call mX12_feed 66 [some (.ref a), l1, l2, l3, l4, l5] (.ref a :: S) σ := r_aload_n dX12_feed_65 rfl
theorem eX12_feed_66 : am_lim call mX12_feed 66 [l0, l1, l2, l3, l4, some (.int x)] (S) σ = am_lim call mX12_feed 68 [l0, l1, l2, l3, l4, some (.int x)] (.int x :: S) σ := r_iload dX12_feed_66 rfl
theorem eX12_feed_68 (h : g_o σ b 12) : am_lim call mX12_feed 68 [l0, l1, l2, l3, l4, l5] (.int v0 :: .ref b :: []) σ = am_k (call mX12_brings [.ref b, .int v0] σ) (fun r σ1 => am_lim call mX12_feed 71 [l0, l1, l2, l3, l4, l5] (r.toList ++ []) σ1) := r_kV (S1 := [.int v0]) dX12_feed_68 mt_12_123 rfl h (Nat.le_of_ble_eq_true rfl)
theorem eX12_feed_71 : am_lim call mX12_feed 71 [some (.ref a), l1, l2, l3, l4, l5] (S) σ = am_lim call mX12_feed 72 [some (.ref a), l1, l2, l3, l4, l5] (.ref a :: S) σ := r_aload_n dX12_feed_71 rfl
theorem eX12_feed_72 (h : g_o σ a 12) : am_lim call mX12_feed 72 [l0, l1, l2, l3, l4, l5] (.ref a :: S) σ = am_lim call mX12_feed 75 [l0, l1, l2, l3, l4, l5] (.int (g_I σ a 2) :: S) σ := r_getI dX12_feed_72 f_12_116 rfl h
theorem eX12_feed_75 : am_lim call mX12_feed 75 [l0, l1, l2, l3, l4, l5] ([.int x]) σ = some (some (.int x), σ) := r_retI dX12_feed_75 rfl
theorem nX12_feed {d : Nat} : am_run (d + 1) mX12_feed [.ref b, .int v0, .int v1, .int v2, .int v3, .int v4] σ = am_lim (am_run d) mX12_feed 0 [some (.ref b), some (.int v0), some (.int v1), some (.int v2), some (.int v3), some (.int v4)] [] σ := am_run_S rfl rfl rfl rfl
end
