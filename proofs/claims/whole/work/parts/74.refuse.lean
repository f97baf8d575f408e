/-! ===== the first fault stays ===== -/
section REFUSE
variable {σ : am_St} {x : Int32}
theorem rf_0 {d : Nat} (o : g_o σ 126 3) (h : g_I σ 126 6 = -1) : am_run (d + 1) mX3_refuse [.ref 126] σ = some (none, am_sI σ 126 6 (g_I σ 126 5)) := y_refuse o h
theorem rf_1 {d : Nat} (o : g_o σ 126 3) (h : ¬ g_I σ 126 6 = -1) : am_run (d + 1) mX3_refuse [.ref 126] σ = some (none, σ) := by
  simp (config := { decide := true }) only [nX3_refuse, eX3_refuse_0, eX3_refuse_1, eX3_refuse_4, eX3_refuse_5, eX3_refuse_8, eX3_refuse_9, eX3_refuse_10, eX3_refuse_13, eX3_refuse_16, o, h, ne_eq, not_false_eq_true, if_true, if_false]
theorem rm_0 {d : Nat} (o : g_o σ 161 12) (h : g_I σ 161 4 = -1) : am_run (d + 1) mX12_fails [.ref 161, .int x] σ = some (some (.int 0), am_sI σ 161 4 x) := y_fails o h
theorem rm_1 {d : Nat} (o : g_o σ 161 12) (h : ¬ g_I σ 161 4 = -1) : am_run (d + 1) mX12_fails [.ref 161, .int x] σ = some (some (.int 0), σ) := by
  simp (config := { decide := true }) only [nX12_fails, eX12_fails_0, eX12_fails_1, eX12_fails_4, eX12_fails_5, eX12_fails_8, eX12_fails_9, eX12_fails_10, eX12_fails_13, eX12_fails_14, o, h, ne_eq, not_false_eq_true, if_true, if_false]
theorem re_1 {d : Nat} (o : g_o σ 126 3) (h : ¬ g_I σ 126 6 = -1) : am_run (d + 1) mX3_readEnd [.ref 126] σ = some (none, σ) := by
  simp (config := { decide := true }) only [nX3_readEnd, eX3_readEnd_0, eX3_readEnd_1, eX3_readEnd_4, eX3_readEnd_5, eX3_readEnd_8, eX3_readEnd_9, eX3_readEnd_12, eX3_readEnd_13, eX3_readEnd_16, eX3_readEnd_17, eX3_readEnd_20, o, h, ne_eq, not_false_eq_true, if_true, if_false]
theorem rn_1 {d : Nat} (o : g_o σ 161 12) (h : ¬ g_I σ 161 4 = -1) : am_run (d + 1) mX12_endsText [.ref 161] σ = some (none, σ) := by
  simp (config := { decide := true }) only [nX12_endsText, eX12_endsText_0, eX12_endsText_1, eX12_endsText_4, eX12_endsText_5, eX12_endsText_8, eX12_endsText_9, eX12_endsText_12, eX12_endsText_13, eX12_endsText_16, eX12_endsText_17, eX12_endsText_18, eX12_endsText_21, eX12_endsText_24, eX12_endsText_25, o, h, ne_eq, not_false_eq_true, if_true, if_false]
end REFUSE
