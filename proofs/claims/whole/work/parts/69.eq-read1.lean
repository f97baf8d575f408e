section
variable {call : am_I → List Value → am_St → Option (Option Value × am_St)} {S : List Value} {σ : am_St} {x y w : Int32} {z z2 : Int64} {a b : Nat} {l0 l1 l2 l3 l4 l5 l6 l7 l8 l9 l10 l11 l12 l13 : Option Value} {s0 v0 s1 v1 s2 v2 s3 v3 s4 v4 s5 v5 s6 v6 s7 v7 s8 v8 : Int32} {q0 p0 q1 p1 q2 p2 q3 p3 q4 p4 q5 p5 q6 p6 q7 p7 q8 p8 : Nat} {j0 w0 j1 w1 j2 w2 j3 w3 j4 w4 j5 w5 j6 w6 j7 w7 j8 w8 : Int64}
theorem dX3_here_0 : decode cX3_here 0 = .ok (.aload_n 0, 1) := by decide +kernel
theorem dX3_here_1 : decode cX3_here 1 = .ok (.getfield 34, 3) := by decide +kernel
theorem dX3_here_4 : decode cX3_here 4 = .ok (.aload_n 0, 1) := by decide +kernel
theorem dX3_here_5 : decode cX3_here 5 = .ok (.getfield 30, 3) := by decide +kernel
theorem dX3_here_8 : decode cX3_here 8 = .ok (.if_icmp .ge 25, 3) := by decide +kernel
theorem dX3_here_11 : decode cX3_here 11 = .ok (.aload_n 0, 1) := by decide +kernel
theorem dX3_here_12 : decode cX3_here 12 = .ok (.getfield 34, 3) := by decide +kernel
theorem dX3_here_15 : decode cX3_here 15 = .ok (.sipush 300, 3) := by decide +kernel
theorem dX3_here_18 : decode cX3_here 18 = .ok (.if_icmp .ge 15, 3) := by decide +kernel
theorem dX3_here_21 : decode cX3_here 21 = .ok (.aload_n 0, 1) := by decide +kernel
theorem dX3_here_22 : decode cX3_here 22 = .ok (.getfield 11, 3) := by decide +kernel
theorem dX3_here_25 : decode cX3_here 25 = .ok (.aload_n 0, 1) := by decide +kernel
theorem dX3_here_26 : decode cX3_here 26 = .ok (.getfield 34, 3) := by decide +kernel
theorem dX3_here_29 : decode cX3_here 29 = .ok (.iaload, 1) := by decide +kernel
theorem dX3_here_30 : decode cX3_here 30 = .ok (.goto 4, 3) := by decide +kernel
theorem dX3_here_33 : decode cX3_here 33 = .ok (.iconst (-1), 1) := by decide +kernel
theorem dX3_here_34 : decode cX3_here 34 = .ok (.ireturn, 1) := by decide +kernel
theorem eX3_here_0 : am_lim call mX3_here 0 [some (.ref a)] (S) σ = am_lim call mX3_here 1 [some (.ref a)] (.ref a :: S) σ := r_aload_n dX3_here_0 rfl
theorem eX3_here_1 (h : g_o σ a 3) : am_lim call mX3_here 1 [l0] (.ref a :: S) σ = am_lim call mX3_here 4 [l0] (.int (g_I σ a 5) :: S) σ := r_getI dX3_here_1 f_3_34 rfl h
theorem eX3_here_4 : am_lim call mX3_here 4 [some (.ref a)] (S) σ = am_lim call mX3_here 5 [some (.ref a)] (.ref a :: S) σ := r_aload_n dX3_here_4 rfl
theorem eX3_here_5 (h : g_o σ a 3) : am_lim call mX3_here 5 [l0] (.ref a :: S) σ = am_lim call mX3_here 8 [l0] (.int (g_I σ a 0) :: S) σ := r_getI dX3_here_5 f_3_30 rfl h
theorem eX3_here_8 : am_lim call mX3_here 8 [l0] (.int y :: .int x :: S) σ = if y ≤ x then am_lim call mX3_here 33 [l0] (S) σ else am_lim call mX3_here 11 [l0] (S) σ := r_icmpB 33 dX3_here_8 (by decide) rfl
theorem eX3_here_11 : am_lim call mX3_here 11 [some (.ref a)] (S) σ = am_lim call mX3_here 12 [some (.ref a)] (.ref a :: S) σ := r_aload_n dX3_here_11 rfl
theorem eX3_here_12 (h : g_o σ a 3) : am_lim call mX3_here 12 [l0] (.ref a :: S) σ = am_lim call mX3_here 15 [l0] (.int (g_I σ a 5) :: S) σ := r_getI dX3_here_12 f_3_34 rfl h
theorem eX3_here_15 : am_lim call mX3_here 15 [l0] (S) σ = am_lim call mX3_here 18 [l0] (.int 300 :: S) σ := r_sipush dX3_here_15 (by decide)
theorem eX3_here_18 : am_lim call mX3_here 18 [l0] (.int y :: .int x :: S) σ = if y ≤ x then am_lim call mX3_here 33 [l0] (S) σ else am_lim call mX3_here 21 [l0] (S) σ := r_icmpB 33 dX3_here_18 (by decide) rfl
theorem eX3_here_21 : am_lim call mX3_here 21 [some (.ref a)] (S) σ = am_lim call mX3_here 22 [some (.ref a)] (.ref a :: S) σ := r_aload_n dX3_here_21 rfl
theorem eX3_here_22 (h : g_o σ a 3) : am_lim call mX3_here 22 [l0] (.ref a :: S) σ = am_lim call mX3_here 25 [l0] (va_rf (g_R σ a 3) :: S) σ := r_getR dX3_here_22 f_3_11 rfl h
theorem eX3_here_25 : am_lim call mX3_here 25 [some (.ref a)] (S) σ = am_lim call mX3_here 26 [some (.ref a)] (.ref a :: S) σ := r_aload_n dX3_here_25 rfl
theorem eX3_here_26 (h : g_o σ a 3) : am_lim call mX3_here 26 [l0] (.ref a :: S) σ = am_lim call mX3_here 29 [l0] (.int (g_I σ a 5) :: S) σ := r_getI dX3_here_26 f_3_34 rfl h
theorem eX3_here_29 {n : Nat} (h : g_a σ a n) (hi : am_in x n) : am_lim call mX3_here 29 [l0] (.int x :: .ref a :: S) σ = am_lim call mX3_here 30 [l0] (.int (g_I σ a x.toNatClampNeg) :: S) σ := r_iald dX3_here_29 h hi
theorem eX3_here_30 : am_lim call mX3_here 30 [l0] (S) σ = am_lim call mX3_here 34 [l0] (S) σ := r_goto 34 dX3_here_30 (by decide)
theorem eX3_here_34 : am_lim call mX3_here 34 [l0] ([.int x]) σ = some (some (.int x), σ) := r_retI dX3_here_34 rfl
theorem eX3_here_33 : am_lim call mX3_here 33 [l0] (S) σ = am_lim call mX3_here 34 [l0] (.int (-1) :: S) σ := r_iconst dX3_here_33 (by decide)
theorem nX3_here {d : Nat} : am_run (d + 1) mX3_here [.ref b] σ = am_lim (am_run d) mX3_here 0 [some (.ref b)] [] σ := am_run_S rfl rfl rfl rfl
end
