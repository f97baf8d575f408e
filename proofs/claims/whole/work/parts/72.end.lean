/-! ===== end, at any tape ===== -/
section ENDS
variable {σ : am_St} {bs : List Int32} {n : Int32}
theorem en_C0 (hC : fd_C σ bs) (o0 : g_o σ 0 11) (r0 : g_R σ 0 0 = some 126) (h : n < 0 ∨ nI bs.length < n) : am_run 2000 mX11_end [.ref 0, .int n] σ = some (some (.int 0), σ) := by
  obtain ⟨o, _, _, _, h5, _⟩ := hC
  by_cases h1 : n < 0
  · simp (config := { decide := true }) only [nX11_end, eX11_end_0, eX11_end_1, eX11_end_4, eX11_end_5, eX11_end_6, eX11_end_9, eX11_end_12, eX11_end_17, eX11_end_18, eX11_end_21, eX11_end_22, eX11_end_25, eX11_end_26, eX11_end_15, eX11_end_16, o0, r0, o, h5, h1, va_rf_s, va_rf_n, if_true, if_false, ite_self, g_o_sI, g_I_sI, g_o_sR, g_I_sR, g_R_sI, g_R_sR, g_a_sI, g_a_sR, g_b_sI, g_b_sR, am_k_s, am_k_i, lw_k_s, lw_k_i, n_sI, n_sR, Option.toList_none, Option.toList_some, List.nil_append, List.cons_append, and_true, true_and, and_self]
  · have h2 : ¬ n ≤ nI bs.length := Int32.not_le.mpr (h.resolve_left h1)
    simp (config := { decide := true }) only [nX11_end, eX11_end_0, eX11_end_1, eX11_end_4, eX11_end_5, eX11_end_6, eX11_end_9, eX11_end_12, eX11_end_17, eX11_end_18, eX11_end_21, eX11_end_22, eX11_end_25, eX11_end_26, eX11_end_15, eX11_end_16, o0, r0, o, h5, h1, h2, va_rf_s, va_rf_n, if_true, if_false, ite_self, g_o_sI, g_I_sI, g_o_sR, g_I_sR, g_R_sI, g_R_sR, g_a_sI, g_a_sR, g_b_sI, g_b_sR, am_k_s, am_k_i, lw_k_s, lw_k_i, n_sI, n_sR, Option.toList_none, Option.toList_some, List.nil_append, List.cons_append, and_true, true_and, and_self]
theorem en_C1 (hC : fd_C σ bs) (o0 : g_o σ 0 11) (r0 : g_R σ 0 0 = some 126) (h : ¬ (n < 0 ∨ nI bs.length < n)) : am_run 2000 mX11_end [.ref 0, .int n] σ = some (some (.int 1), am_sI σ 126 0 n) := by
  obtain ⟨o, _, _, _, h5, _⟩ := hC
  have h1 : ¬ n < 0 := fun z => h (Or.inl z)
  have h2 : n ≤ nI bs.length := Int32.not_lt.mp (fun z => h (Or.inr z))
  simp (config := { decide := true }) only [nX11_end, eX11_end_0, eX11_end_1, eX11_end_4, eX11_end_5, eX11_end_6, eX11_end_9, eX11_end_12, eX11_end_17, eX11_end_18, eX11_end_21, eX11_end_22, eX11_end_25, eX11_end_26, eX11_end_15, eX11_end_16, o0, r0, o, h5, h1, h2, va_rf_s, va_rf_n, if_true, if_false, ite_self, g_o_sI, g_I_sI, g_o_sR, g_I_sR, g_R_sI, g_R_sR, g_a_sI, g_a_sR, g_b_sI, g_b_sR, am_k_s, am_k_i, lw_k_s, lw_k_i, n_sI, n_sR, Option.toList_none, Option.toList_some, List.nil_append, List.cons_append, and_true, true_and, and_self]
theorem en_M0 (hC : fd_M σ bs) (h : n < 0 ∨ nI bs.length < n) : am_run 2000 mX12_end [.ref 161, .int n] σ = some (some (.int 0), am_sI σ 161 0 0) := by
  obtain ⟨o, _, _, _, h5, _⟩ := hC
  by_cases h1 : n < 0
  · simp (config := { decide := true }) only [nX12_end, eX12_end_0, eX12_end_1, eX12_end_2, eX12_end_5, eX12_end_6, eX12_end_9, eX12_end_10, eX12_end_11, eX12_end_14, eX12_end_19, eX12_end_20, eX12_end_21, eX12_end_24, eX12_end_25, eX12_end_17, eX12_end_18, o, h5, h1, va_rf_s, va_rf_n, if_true, if_false, ite_self, g_o_sI, g_I_sI, g_o_sR, g_I_sR, g_R_sI, g_R_sR, g_a_sI, g_a_sR, g_b_sI, g_b_sR, am_k_s, am_k_i, lw_k_s, lw_k_i, n_sI, n_sR, Option.toList_none, Option.toList_some, List.nil_append, List.cons_append, and_true, true_and, and_self]
  · have h2 : ¬ n ≤ nI bs.length := Int32.not_le.mpr (h.resolve_left h1)
    simp (config := { decide := true }) only [nX12_end, eX12_end_0, eX12_end_1, eX12_end_2, eX12_end_5, eX12_end_6, eX12_end_9, eX12_end_10, eX12_end_11, eX12_end_14, eX12_end_19, eX12_end_20, eX12_end_21, eX12_end_24, eX12_end_25, eX12_end_17, eX12_end_18, o, h5, h1, h2, va_rf_s, va_rf_n, if_true, if_false, ite_self, g_o_sI, g_I_sI, g_o_sR, g_I_sR, g_R_sI, g_R_sR, g_a_sI, g_a_sR, g_b_sI, g_b_sR, am_k_s, am_k_i, lw_k_s, lw_k_i, n_sI, n_sR, Option.toList_none, Option.toList_some, List.nil_append, List.cons_append, and_true, true_and, and_self]
theorem en_M1 (hC : fd_M σ bs) (h : ¬ (n < 0 ∨ nI bs.length < n)) : am_run 2000 mX12_end [.ref 161, .int n] σ = some (some (.int 1), am_sI (am_sI σ 161 0 0) 161 2 n) := by
  obtain ⟨o, _, _, _, h5, _⟩ := hC
  have h1 : ¬ n < 0 := fun z => h (Or.inl z)
  have h2 : n ≤ nI bs.length := Int32.not_lt.mp (fun z => h (Or.inr z))
  simp (config := { decide := true }) only [nX12_end, eX12_end_0, eX12_end_1, eX12_end_2, eX12_end_5, eX12_end_6, eX12_end_9, eX12_end_10, eX12_end_11, eX12_end_14, eX12_end_19, eX12_end_20, eX12_end_21, eX12_end_24, eX12_end_25, eX12_end_17, eX12_end_18, o, h5, h1, h2, va_rf_s, va_rf_n, if_true, if_false, ite_self, g_o_sI, g_I_sI, g_o_sR, g_I_sR, g_R_sI, g_R_sR, g_a_sI, g_a_sR, g_b_sI, g_b_sR, am_k_s, am_k_i, lw_k_s, lw_k_i, n_sI, n_sR, Option.toList_none, Option.toList_some, List.nil_append, List.cons_append, and_true, true_and, and_self]
/-- where the tape is cut, it is cut at a place of it -/
theorem en_n (hl : bs.length ≤ 300) (h : ¬ (n < 0 ∨ nI bs.length < n)) : ∃ k, k ≤ bs.length ∧ n = nI k := nI_of2 (nI_toInt (by omega)) (fun z => h (Or.inl z)) (Int32.not_lt.mp (fun z => h (Or.inr z)))
end ENDS
