/-! ===== feed, of the class and of the model ===== -/
def fd_B (a b c d e : Int32) : List Int32 := fd_b a ++ fd_b b ++ fd_b c ++ fd_b d ++ fd_b e
section FEED2
variable {σ : am_St} {bs : List Int32} {a b c d e : Int32}
theorem fd_Bl : (fd_B a b c d e).length = (fd_b a).length + (fd_b b).length + (fd_b c).length + (fd_b d).length + (fd_b e).length := by
  rw [fd_B, List.length_append, List.length_append, List.length_append, List.length_append]
theorem fd_1le {x : Int32} : (fd_1 x).length ≤ 1 := by
  unfold fd_1
  split
  · exact Nat.zero_le _
  · exact Nat.le_refl _
theorem fd_ble {w : Int32} : (fd_b w).length ≤ 4 := by
  rw [fd_len]
  have h1 := @fd_1le (fd_y w 24)
  have h2 := @fd_1le (fd_y w 16)
  have h3 := @fd_1le (fd_y w 8)
  have h4 := @fd_1le (fd_y w 0)
  omega
theorem fd_Ble : (fd_B a b c d e).length ≤ 20 := by
  rw [fd_Bl]
  have h1 := @fd_ble a
  have h2 := @fd_ble b
  have h3 := @fd_ble c
  have h4 := @fd_ble d
  have h5 := @fd_ble e
  omega
theorem fd_feedN (hC : fd_C σ bs) (o0 : g_o σ 0 11) (r0 : g_R σ 0 0 = some 126) (h : ¬ bs.length + (fd_B a b c d e).length ≤ 300) : am_run 2000 mX11_feed [.ref 0, .int a, .int b, .int c, .int d, .int e] σ = some (some (.int (-1)), σ) := by
  obtain ⟨o, _, _, h3, h5, _⟩ := hC
  have hB := @fd_Ble a b c d e
  rw [fd_Bl] at h hB
  have q : ¬ nI (bs.length + ((fd_b a).length + (fd_b b).length + (fd_b c).length + (fd_b d).length + (fd_b e).length)) ≤ 300 := nI_ge (a := 300) (by omega) (by omega)
  simp (config := { decide := true }) only [nX11_feed, eX11_feed_0, eX11_feed_1, eX11_feed_4, eX11_feed_5, eX11_feed_8, eX11_feed_9, eX11_feed_10, eX11_feed_13, eX11_feed_14, eX11_feed_16, eX11_feed_19, eX11_feed_20, eX11_feed_22, eX11_feed_25, eX11_feed_26, eX11_feed_28, eX11_feed_29, eX11_feed_32, eX11_feed_35, eX11_feed_37, eX11_feed_38, eX11_feed_41, eX11_feed_44, eX11_feed_45, eX11_feed_46, eX11_feed_47, eX11_feed_50, eX11_feed_51, eX11_feed_54, eX11_feed_55, eX11_feed_58, eX11_feed_59, eX11_feed_62, eX11_feed_63, eX11_feed_66, eX11_feed_67, eX11_feed_70, eX11_feed_71, eX11_feed_74, eX11_feed_76, eX11_feed_79, eX11_feed_80, eX11_feed_83, eX11_feed_85, eX11_feed_88, eX11_feed_89, eX11_feed_92, eX11_feed_95, fd_bytesIn, o0, r0, o, h5, nI_add, q, va_rf_s, va_rf_n, if_true, if_false, ite_self, g_o_sI, g_I_sI, g_o_sR, g_I_sR, g_R_sI, g_R_sR, g_a_sI, g_a_sR, g_b_sI, g_b_sR, am_k_s, am_k_i, lw_k_s, lw_k_i, n_sI, n_sR, Option.toList_none, Option.toList_some, List.nil_append, List.cons_append, and_true, true_and, and_self]
theorem fm_feedN (hC : fd_M σ bs) (h : ¬ bs.length + (fd_B a b c d e).length ≤ 300) : am_run 2000 mX12_feed [.ref 161, .int a, .int b, .int c, .int d, .int e] σ = some (some (.int (-1)), am_sI σ 161 0 0) := by
  obtain ⟨o, _, _, h3, h5, _⟩ := hC
  have hB := @fd_Ble a b c d e
  rw [fd_Bl] at h hB
  have q : ¬ nI (bs.length + (fd_b a).length + (fd_b b).length + (fd_b c).length + (fd_b d).length + (fd_b e).length) ≤ 300 := nI_ge (a := 300) (by omega) (by omega)
  simp (config := { decide := true }) only [nX12_feed, eX12_feed_0, eX12_feed_1, eX12_feed_2, eX12_feed_5, eX12_feed_6, eX12_feed_9, eX12_feed_10, eX12_feed_13, eX12_feed_14, eX12_feed_15, eX12_feed_18, eX12_feed_19, eX12_feed_20, eX12_feed_23, eX12_feed_24, eX12_feed_26, eX12_feed_29, eX12_feed_30, eX12_feed_32, eX12_feed_35, eX12_feed_36, eX12_feed_39, eX12_feed_42, eX12_feed_43, eX12_feed_44, eX12_feed_45, eX12_feed_46, eX12_feed_49, eX12_feed_50, eX12_feed_51, eX12_feed_54, eX12_feed_55, eX12_feed_56, eX12_feed_59, eX12_feed_60, eX12_feed_62, eX12_feed_65, eX12_feed_66, eX12_feed_68, eX12_feed_71, eX12_feed_72, eX12_feed_75, fm_bytesOf, o, h5, nI_add, q, va_rf_s, va_rf_n, if_true, if_false, ite_self, g_o_sI, g_I_sI, g_o_sR, g_I_sR, g_R_sI, g_R_sR, g_a_sI, g_a_sR, g_b_sI, g_b_sR, am_k_s, am_k_i, lw_k_s, lw_k_i, n_sI, n_sR, Option.toList_none, Option.toList_some, List.nil_append, List.cons_append, and_true, true_and, and_self]
theorem fd_feed (hC : fd_C σ bs) (o0 : g_o σ 0 11) (r0 : g_R σ 0 0 = some 126) (h : bs.length + (fd_B a b c d e).length ≤ 300) : ∃ σ', am_run 2000 mX11_feed [.ref 0, .int a, .int b, .int c, .int d, .int e] σ = some (some (.int (nI (bs ++ fd_B a b c d e).length)), σ') ∧ fd_C σ' (bs ++ fd_B a b c d e) ∧ w_fr fd_PC σ σ' := by
  have h' := h
  rw [fd_Bl] at h'
  obtain ⟨σ1, e1, c1, f1⟩ := fd_put (d := 1998) (w := a) hC (by omega)
  obtain ⟨σ2, e2, c2, f2⟩ := fd_put (d := 1998) (w := b) c1 (by rw [List.length_append]; omega)
  obtain ⟨σ3, e3, c3, f3⟩ := fd_put (d := 1998) (w := c) c2 (by rw [List.length_append, List.length_append]; omega)
  obtain ⟨σ4, e4, c4, f4⟩ := fd_put (d := 1998) (w := d) c3 (by rw [List.length_append, List.length_append, List.length_append]; omega)
  obtain ⟨σ5, e5, c5, f5⟩ := fd_put (d := 1998) (w := e) c4 (by rw [List.length_append, List.length_append, List.length_append, List.length_append]; omega)
  have F2 := f1.tr f2
  have F3 := F2.tr f3
  have F4 := F3.tr f4
  have F5 := F4.tr f5
  have c5' : fd_C σ5 (bs ++ fd_B a b c d e) := by
    rw [fd_B]
    simpa only [List.append_assoc] using c5
  refine ⟨σ5, ?_, c5', F5⟩
  have nP : ¬ fd_PC 0 0 := by rintro (z | ⟨z, _⟩) <;> exact absurd z (by decide)
  obtain ⟨o, _, _, h3, h5, _⟩ := hC
  have q : nI (bs.length + ((fd_b a).length + (fd_b b).length + (fd_b c).length + (fd_b d).length + (fd_b e).length)) ≤ 300 := nI_le (b := 300) (by omega) (by decide)
  have o1 := f1.o o0
  have o2 := F2.o o0
  have o3 := F3.o o0
  have o4 := F4.o o0
  have o5 := F5.o o0
  have r1 := (f1.2.2.2.2 0 0 nP).trans r0
  have r2 := (F2.2.2.2.2 0 0 nP).trans r0
  have r3 := (F3.2.2.2.2 0 0 nP).trans r0
  have r4 := (F4.2.2.2.2 0 0 nP).trans r0
  have r5 := (F5.2.2.2.2 0 0 nP).trans r0
  have p1 := c1.1
  have p2 := c2.1
  have p3 := c3.1
  have p4 := c4.1
  have p5 := c5.1
  have h6 := c5'.2.2.2.2.1
  simp (config := { decide := true }) only [nX11_feed, eX11_feed_0, eX11_feed_1, eX11_feed_4, eX11_feed_5, eX11_feed_8, eX11_feed_9, eX11_feed_10, eX11_feed_13, eX11_feed_14, eX11_feed_16, eX11_feed_19, eX11_feed_20, eX11_feed_22, eX11_feed_25, eX11_feed_26, eX11_feed_28, eX11_feed_29, eX11_feed_32, eX11_feed_35, eX11_feed_37, eX11_feed_38, eX11_feed_41, eX11_feed_44, eX11_feed_45, eX11_feed_46, eX11_feed_47, eX11_feed_50, eX11_feed_51, eX11_feed_54, eX11_feed_55, eX11_feed_58, eX11_feed_59, eX11_feed_62, eX11_feed_63, eX11_feed_66, eX11_feed_67, eX11_feed_70, eX11_feed_71, eX11_feed_74, eX11_feed_76, eX11_feed_79, eX11_feed_80, eX11_feed_83, eX11_feed_85, eX11_feed_88, eX11_feed_89, eX11_feed_92, eX11_feed_95, fd_bytesIn, o0, r0, o, h5, nI_add, q, e1, e2, e3, e4, e5, o1, o2, o3, o4, o5, r1, r2, r3, r4, r5, p1, p2, p3, p4, p5, h6, va_rf_s, va_rf_n, if_true, if_false, ite_self, g_o_sI, g_I_sI, g_o_sR, g_I_sR, g_R_sI, g_R_sR, g_a_sI, g_a_sR, g_b_sI, g_b_sR, am_k_s, am_k_i, lw_k_s, lw_k_i, n_sI, n_sR, Option.toList_none, Option.toList_some, List.nil_append, List.cons_append, and_true, true_and, and_self]
theorem fm_feed (hC : fd_M σ bs) (h : bs.length + (fd_B a b c d e).length ≤ 300) : ∃ σ', am_run 2000 mX12_feed [.ref 161, .int a, .int b, .int c, .int d, .int e] σ = some (some (.int (nI (bs ++ fd_B a b c d e).length)), σ') ∧ fd_M σ' (bs ++ fd_B a b c d e) ∧ w_fr fd_PM σ σ' := by
  have h' := h
  rw [fd_Bl] at h'
  have c0 : fd_M (am_sI σ 161 0 0) bs := ⟨hC.1, hC.2.1, hC.2.2.1, hC.2.2.2.1, by rw [g_I_sI, if_neg (fun z => absurd z.2 (by decide))]; exact hC.2.2.2.2.1, fun i hi => by rw [g_I_sI, if_neg (fun z => absurd z.1 (by decide))]; exact hC.2.2.2.2.2 i hi⟩
  have f0 : w_fr fd_PM σ (am_sI σ 161 0 0) := w_fr.sI (Or.inr ⟨rfl, Or.inr rfl⟩)
  obtain ⟨σ1, e1, c1, f1⟩ := fm_put (d := 1998) (w := a) c0 (by omega)
  obtain ⟨σ2, e2, c2, f2⟩ := fm_put (d := 1998) (w := b) c1 (by rw [List.length_append]; omega)
  obtain ⟨σ3, e3, c3, f3⟩ := fm_put (d := 1998) (w := c) c2 (by rw [List.length_append, List.length_append]; omega)
  obtain ⟨σ4, e4, c4, f4⟩ := fm_put (d := 1998) (w := d) c3 (by rw [List.length_append, List.length_append, List.length_append]; omega)
  obtain ⟨σ5, e5, c5, f5⟩ := fm_put (d := 1998) (w := e) c4 (by rw [List.length_append, List.length_append, List.length_append, List.length_append]; omega)
  have c5' : fd_M σ5 (bs ++ fd_B a b c d e) := by
    rw [fd_B]
    simpa only [List.append_assoc] using c5
  refine ⟨σ5, ?_, c5', f0.tr (f1.tr (f2.tr (f3.tr (f4.tr f5))))⟩
  obtain ⟨o, _, _, h3, h5, _⟩ := hC
  have q : nI (bs.length + (fd_b a).length + (fd_b b).length + (fd_b c).length + (fd_b d).length + (fd_b e).length) ≤ 300 := nI_le (b := 300) (by omega) (by decide)
  have p1 := c1.1
  have p2 := c2.1
  have p3 := c3.1
  have p4 := c4.1
  have p5 := c5.1
  have h6 := c5'.2.2.2.2.1
  simp (config := { decide := true }) only [nX12_feed, eX12_feed_0, eX12_feed_1, eX12_feed_2, eX12_feed_5, eX12_feed_6, eX12_feed_9, eX12_feed_10, eX12_feed_13, eX12_feed_14, eX12_feed_15, eX12_feed_18, eX12_feed_19, eX12_feed_20, eX12_feed_23, eX12_feed_24, eX12_feed_26, eX12_feed_29, eX12_feed_30, eX12_feed_32, eX12_feed_35, eX12_feed_36, eX12_feed_39, eX12_feed_42, eX12_feed_43, eX12_feed_44, eX12_feed_45, eX12_feed_46, eX12_feed_49, eX12_feed_50, eX12_feed_51, eX12_feed_54, eX12_feed_55, eX12_feed_56, eX12_feed_59, eX12_feed_60, eX12_feed_62, eX12_feed_65, eX12_feed_66, eX12_feed_68, eX12_feed_71, eX12_feed_72, eX12_feed_75, fm_bytesOf, o, h5, nI_add, q, e1, e2, e3, e4, e5, p1, p2, p3, p4, p5, h6, va_rf_s, va_rf_n, if_true, if_false, ite_self, g_o_sI, g_I_sI, g_o_sR, g_I_sR, g_R_sI, g_R_sR, g_a_sI, g_a_sR, g_b_sI, g_b_sR, am_k_s, am_k_i, lw_k_s, lw_k_i, n_sI, n_sR, Option.toList_none, Option.toList_some, List.nil_append, List.cons_append, and_true, true_and, and_self]
end FEED2
section P1F
variable {σ : am_St}
theorem p_feed (hF : kk_F σ) {a b c d e : Int32} : lw_op lw_sh σ mX11_feed mX12_feed [a, b, c, d, e] := by
  have hC : fd_C σ [] := ⟨F_o_126 hF, F_R_126_3 hF, F_a_127 hF, by decide, F_I_126_0 hF, fun i h => absurd h (Nat.not_lt_zero _)⟩
  have hM : fd_M σ [] := ⟨F_o_161 hF, F_R_161_1 hF, F_b_162 hF, by decide, F_I_161_2 hF, fun i h => absurd h (Nat.not_lt_zero _)⟩
  have h : ([] : List Int32).length + (fd_B a b c d e).length ≤ 300 := by
    have := @fd_Ble a b c d e
    rw [List.length_nil]
    omega
  obtain ⟨σ1, e1, c1, f1⟩ := fd_feed hC (F_o_0 hF) (F_R_0_0 hF) h
  have nP : ∀ j, ¬ fd_PC 161 j := fun j => by rintro (z | ⟨z, _⟩) <;> exact absurd z (by decide)
  have hM1 : fd_M σ1 [] := ⟨f1.o hM.1, (f1.2.2.2.2 161 1 (nP 1)).trans hM.2.1, f1.b hM.2.2.1, by decide, (f1.2.2.2.1 161 2 (nP 2)).trans hM.2.2.2.2.1, fun i h => absurd h (Nat.not_lt_zero _)⟩
  obtain ⟨σ2, e2, c2, f2⟩ := fm_feed hM1 h
  have m1 := sm_of e1 f1.1
  have m2 := sm_of e2 f2.1
  have nC : ¬ fd_PC 0 5 := by rintro (z | ⟨z, _⟩) <;> exact absurd z (by decide)
  have nM : ¬ fd_PM 0 5 := by rintro (z | ⟨z, _⟩) <;> exact absurd z (by decide)
  exact ⟨_, σ1, σ2, e1, e2, m1, m2, by rw [f2.1, f1.1]; exact hF.1, fun k hk => by rw [m2.2.2, m1.2.2]; exact (kk_sh hF).2.1 k hk, (f2.2.2.2.2 0 5 nM).trans ((f1.2.2.2.2 0 5 nC).trans (F_R_0_5 hF))⟩
end P1F
