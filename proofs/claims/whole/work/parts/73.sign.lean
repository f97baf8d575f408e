/-! ===== signs ===== -/
section SIGNS
variable {σ : am_St} {x : Int32}
theorem sg_isLetter {d : Nat} : am_run (d + 1) mX3_isLetter [.int x] σ = some (some (.int (if 97 ≤ x ∧ x ≤ 122 then 1 else 0)), σ) := by
  by_cases h1 : 97 ≤ x <;> by_cases h2 : x ≤ 122
  · have q1 := Int32.not_lt.mpr h1
    have q2 := Int32.not_lt.mpr h2
    simp (config := { decide := true }) only [nX3_isLetter, eX3_isLetter_0, eX3_isLetter_1, eX3_isLetter_3, eX3_isLetter_6, eX3_isLetter_7, eX3_isLetter_9, eX3_isLetter_12, eX3_isLetter_13, eX3_isLetter_17, eX3_isLetter_16, h1, h2, q1, q2, va_rf_s, va_rf_n, if_true, if_false, ite_self, g_o_sI, g_I_sI, g_o_sR, g_I_sR, g_R_sI, g_R_sR, g_a_sI, g_a_sR, g_b_sI, g_b_sR, am_k_s, am_k_i, lw_k_s, lw_k_i, n_sI, n_sR, Option.toList_none, Option.toList_some, List.nil_append, List.cons_append, and_true, true_and, and_self]
  · have q1 := Int32.not_lt.mpr h1
    have q2 := Int32.not_le.mp h2
    simp (config := { decide := true }) only [nX3_isLetter, eX3_isLetter_0, eX3_isLetter_1, eX3_isLetter_3, eX3_isLetter_6, eX3_isLetter_7, eX3_isLetter_9, eX3_isLetter_12, eX3_isLetter_13, eX3_isLetter_17, eX3_isLetter_16, h1, h2, q1, q2, and_false, va_rf_s, va_rf_n, if_true, if_false, ite_self, g_o_sI, g_I_sI, g_o_sR, g_I_sR, g_R_sI, g_R_sR, g_a_sI, g_a_sR, g_b_sI, g_b_sR, am_k_s, am_k_i, lw_k_s, lw_k_i, n_sI, n_sR, Option.toList_none, Option.toList_some, List.nil_append, List.cons_append, and_true, true_and, and_self]
  · have q1 := Int32.not_le.mp h1
    simp (config := { decide := true }) only [nX3_isLetter, eX3_isLetter_0, eX3_isLetter_1, eX3_isLetter_3, eX3_isLetter_6, eX3_isLetter_7, eX3_isLetter_9, eX3_isLetter_12, eX3_isLetter_13, eX3_isLetter_17, eX3_isLetter_16, h1, q1, false_and, va_rf_s, va_rf_n, if_true, if_false, ite_self, g_o_sI, g_I_sI, g_o_sR, g_I_sR, g_R_sI, g_R_sR, g_a_sI, g_a_sR, g_b_sI, g_b_sR, am_k_s, am_k_i, lw_k_s, lw_k_i, n_sI, n_sR, Option.toList_none, Option.toList_some, List.nil_append, List.cons_append, and_true, true_and, and_self]
  · have q1 := Int32.not_le.mp h1
    simp (config := { decide := true }) only [nX3_isLetter, eX3_isLetter_0, eX3_isLetter_1, eX3_isLetter_3, eX3_isLetter_6, eX3_isLetter_7, eX3_isLetter_9, eX3_isLetter_12, eX3_isLetter_13, eX3_isLetter_17, eX3_isLetter_16, h1, q1, false_and, va_rf_s, va_rf_n, if_true, if_false, ite_self, g_o_sI, g_I_sI, g_o_sR, g_I_sR, g_R_sI, g_R_sR, g_a_sI, g_a_sR, g_b_sI, g_b_sR, am_k_s, am_k_i, lw_k_s, lw_k_i, n_sI, n_sR, Option.toList_none, Option.toList_some, List.nil_append, List.cons_append, and_true, true_and, and_self]
theorem sm_isLetter {d : Nat} : am_run (d + 1) mX12_isLetter [.int x] σ = some (some (.int (if 97 ≤ x ∧ x ≤ 122 then 1 else 0)), σ) := by
  by_cases h1 : 97 ≤ x <;> by_cases h2 : x ≤ 122
  · have q1 := Int32.not_lt.mpr h1
    have q2 := Int32.not_lt.mpr h2
    simp (config := { decide := true }) only [nX12_isLetter, eX12_isLetter_0, eX12_isLetter_1, eX12_isLetter_3, eX12_isLetter_6, eX12_isLetter_7, eX12_isLetter_9, eX12_isLetter_12, eX12_isLetter_13, eX12_isLetter_17, eX12_isLetter_16, h1, h2, q1, q2, va_rf_s, va_rf_n, if_true, if_false, ite_self, g_o_sI, g_I_sI, g_o_sR, g_I_sR, g_R_sI, g_R_sR, g_a_sI, g_a_sR, g_b_sI, g_b_sR, am_k_s, am_k_i, lw_k_s, lw_k_i, n_sI, n_sR, Option.toList_none, Option.toList_some, List.nil_append, List.cons_append, and_true, true_and, and_self]
  · have q1 := Int32.not_lt.mpr h1
    have q2 := Int32.not_le.mp h2
    simp (config := { decide := true }) only [nX12_isLetter, eX12_isLetter_0, eX12_isLetter_1, eX12_isLetter_3, eX12_isLetter_6, eX12_isLetter_7, eX12_isLetter_9, eX12_isLetter_12, eX12_isLetter_13, eX12_isLetter_17, eX12_isLetter_16, h1, h2, q1, q2, and_false, va_rf_s, va_rf_n, if_true, if_false, ite_self, g_o_sI, g_I_sI, g_o_sR, g_I_sR, g_R_sI, g_R_sR, g_a_sI, g_a_sR, g_b_sI, g_b_sR, am_k_s, am_k_i, lw_k_s, lw_k_i, n_sI, n_sR, Option.toList_none, Option.toList_some, List.nil_append, List.cons_append, and_true, true_and, and_self]
  · have q1 := Int32.not_le.mp h1
    simp (config := { decide := true }) only [nX12_isLetter, eX12_isLetter_0, eX12_isLetter_1, eX12_isLetter_3, eX12_isLetter_6, eX12_isLetter_7, eX12_isLetter_9, eX12_isLetter_12, eX12_isLetter_13, eX12_isLetter_17, eX12_isLetter_16, h1, q1, false_and, va_rf_s, va_rf_n, if_true, if_false, ite_self, g_o_sI, g_I_sI, g_o_sR, g_I_sR, g_R_sI, g_R_sR, g_a_sI, g_a_sR, g_b_sI, g_b_sR, am_k_s, am_k_i, lw_k_s, lw_k_i, n_sI, n_sR, Option.toList_none, Option.toList_some, List.nil_append, List.cons_append, and_true, true_and, and_self]
  · have q1 := Int32.not_le.mp h1
    simp (config := { decide := true }) only [nX12_isLetter, eX12_isLetter_0, eX12_isLetter_1, eX12_isLetter_3, eX12_isLetter_6, eX12_isLetter_7, eX12_isLetter_9, eX12_isLetter_12, eX12_isLetter_13, eX12_isLetter_17, eX12_isLetter_16, h1, q1, false_and, va_rf_s, va_rf_n, if_true, if_false, ite_self, g_o_sI, g_I_sI, g_o_sR, g_I_sR, g_R_sI, g_R_sR, g_a_sI, g_a_sR, g_b_sI, g_b_sR, am_k_s, am_k_i, lw_k_s, lw_k_i, n_sI, n_sR, Option.toList_none, Option.toList_some, List.nil_append, List.cons_append, and_true, true_and, and_self]
theorem sg_isDigit {d : Nat} : am_run (d + 1) mX3_isDigit [.int x] σ = some (some (.int (if 48 ≤ x ∧ x ≤ 57 then 1 else 0)), σ) := by
  by_cases h1 : 48 ≤ x <;> by_cases h2 : x ≤ 57
  · have q1 := Int32.not_lt.mpr h1
    have q2 := Int32.not_lt.mpr h2
    simp (config := { decide := true }) only [nX3_isDigit, eX3_isDigit_0, eX3_isDigit_1, eX3_isDigit_3, eX3_isDigit_6, eX3_isDigit_7, eX3_isDigit_9, eX3_isDigit_12, eX3_isDigit_13, eX3_isDigit_17, eX3_isDigit_16, h1, h2, q1, q2, va_rf_s, va_rf_n, if_true, if_false, ite_self, g_o_sI, g_I_sI, g_o_sR, g_I_sR, g_R_sI, g_R_sR, g_a_sI, g_a_sR, g_b_sI, g_b_sR, am_k_s, am_k_i, lw_k_s, lw_k_i, n_sI, n_sR, Option.toList_none, Option.toList_some, List.nil_append, List.cons_append, and_true, true_and, and_self]
  · have q1 := Int32.not_lt.mpr h1
    have q2 := Int32.not_le.mp h2
    simp (config := { decide := true }) only [nX3_isDigit, eX3_isDigit_0, eX3_isDigit_1, eX3_isDigit_3, eX3_isDigit_6, eX3_isDigit_7, eX3_isDigit_9, eX3_isDigit_12, eX3_isDigit_13, eX3_isDigit_17, eX3_isDigit_16, h1, h2, q1, q2, and_false, va_rf_s, va_rf_n, if_true, if_false, ite_self, g_o_sI, g_I_sI, g_o_sR, g_I_sR, g_R_sI, g_R_sR, g_a_sI, g_a_sR, g_b_sI, g_b_sR, am_k_s, am_k_i, lw_k_s, lw_k_i, n_sI, n_sR, Option.toList_none, Option.toList_some, List.nil_append, List.cons_append, and_true, true_and, and_self]
  · have q1 := Int32.not_le.mp h1
    simp (config := { decide := true }) only [nX3_isDigit, eX3_isDigit_0, eX3_isDigit_1, eX3_isDigit_3, eX3_isDigit_6, eX3_isDigit_7, eX3_isDigit_9, eX3_isDigit_12, eX3_isDigit_13, eX3_isDigit_17, eX3_isDigit_16, h1, q1, false_and, va_rf_s, va_rf_n, if_true, if_false, ite_self, g_o_sI, g_I_sI, g_o_sR, g_I_sR, g_R_sI, g_R_sR, g_a_sI, g_a_sR, g_b_sI, g_b_sR, am_k_s, am_k_i, lw_k_s, lw_k_i, n_sI, n_sR, Option.toList_none, Option.toList_some, List.nil_append, List.cons_append, and_true, true_and, and_self]
  · have q1 := Int32.not_le.mp h1
    simp (config := { decide := true }) only [nX3_isDigit, eX3_isDigit_0, eX3_isDigit_1, eX3_isDigit_3, eX3_isDigit_6, eX3_isDigit_7, eX3_isDigit_9, eX3_isDigit_12, eX3_isDigit_13, eX3_isDigit_17, eX3_isDigit_16, h1, q1, false_and, va_rf_s, va_rf_n, if_true, if_false, ite_self, g_o_sI, g_I_sI, g_o_sR, g_I_sR, g_R_sI, g_R_sR, g_a_sI, g_a_sR, g_b_sI, g_b_sR, am_k_s, am_k_i, lw_k_s, lw_k_i, n_sI, n_sR, Option.toList_none, Option.toList_some, List.nil_append, List.cons_append, and_true, true_and, and_self]
theorem sm_isDigit {d : Nat} : am_run (d + 1) mX12_isDigit [.int x] σ = some (some (.int (if 48 ≤ x ∧ x ≤ 57 then 1 else 0)), σ) := by
  by_cases h1 : 48 ≤ x <;> by_cases h2 : x ≤ 57
  · have q1 := Int32.not_lt.mpr h1
    have q2 := Int32.not_lt.mpr h2
    simp (config := { decide := true }) only [nX12_isDigit, eX12_isDigit_0, eX12_isDigit_1, eX12_isDigit_3, eX12_isDigit_6, eX12_isDigit_7, eX12_isDigit_9, eX12_isDigit_12, eX12_isDigit_13, eX12_isDigit_17, eX12_isDigit_16, h1, h2, q1, q2, va_rf_s, va_rf_n, if_true, if_false, ite_self, g_o_sI, g_I_sI, g_o_sR, g_I_sR, g_R_sI, g_R_sR, g_a_sI, g_a_sR, g_b_sI, g_b_sR, am_k_s, am_k_i, lw_k_s, lw_k_i, n_sI, n_sR, Option.toList_none, Option.toList_some, List.nil_append, List.cons_append, and_true, true_and, and_self]
  · have q1 := Int32.not_lt.mpr h1
    have q2 := Int32.not_le.mp h2
    simp (config := { decide := true }) only [nX12_isDigit, eX12_isDigit_0, eX12_isDigit_1, eX12_isDigit_3, eX12_isDigit_6, eX12_isDigit_7, eX12_isDigit_9, eX12_isDigit_12, eX12_isDigit_13, eX12_isDigit_17, eX12_isDigit_16, h1, h2, q1, q2, and_false, va_rf_s, va_rf_n, if_true, if_false, ite_self, g_o_sI, g_I_sI, g_o_sR, g_I_sR, g_R_sI, g_R_sR, g_a_sI, g_a_sR, g_b_sI, g_b_sR, am_k_s, am_k_i, lw_k_s, lw_k_i, n_sI, n_sR, Option.toList_none, Option.toList_some, List.nil_append, List.cons_append, and_true, true_and, and_self]
  · have q1 := Int32.not_le.mp h1
    simp (config := { decide := true }) only [nX12_isDigit, eX12_isDigit_0, eX12_isDigit_1, eX12_isDigit_3, eX12_isDigit_6, eX12_isDigit_7, eX12_isDigit_9, eX12_isDigit_12, eX12_isDigit_13, eX12_isDigit_17, eX12_isDigit_16, h1, q1, false_and, va_rf_s, va_rf_n, if_true, if_false, ite_self, g_o_sI, g_I_sI, g_o_sR, g_I_sR, g_R_sI, g_R_sR, g_a_sI, g_a_sR, g_b_sI, g_b_sR, am_k_s, am_k_i, lw_k_s, lw_k_i, n_sI, n_sR, Option.toList_none, Option.toList_some, List.nil_append, List.cons_append, and_true, true_and, and_self]
  · have q1 := Int32.not_le.mp h1
    simp (config := { decide := true }) only [nX12_isDigit, eX12_isDigit_0, eX12_isDigit_1, eX12_isDigit_3, eX12_isDigit_6, eX12_isDigit_7, eX12_isDigit_9, eX12_isDigit_12, eX12_isDigit_13, eX12_isDigit_17, eX12_isDigit_16, h1, q1, false_and, va_rf_s, va_rf_n, if_true, if_false, ite_self, g_o_sI, g_I_sI, g_o_sR, g_I_sR, g_R_sI, g_R_sR, g_a_sI, g_a_sR, g_b_sI, g_b_sR, am_k_s, am_k_i, lw_k_s, lw_k_i, n_sI, n_sR, Option.toList_none, Option.toList_some, List.nil_append, List.cons_append, and_true, true_and, and_self]
end SIGNS
