/-! ===== every operation on a fresh object ===== -/
theorem p_ops {σ : am_St} (hF : kk_F σ) : lw_ops lw_sh σ := by
  have hs := kk_sh hF
  exact ⟨hs, fun _ _ _ _ _ => p_feed hF, fun a => kk_pp_op hs (is := [a]) (p_end hF), fun a => kk_pp_op hs (is := [a]) (p_fault hF), kk_pp_op hs (is := []) (p_infers hF), kk_pp_op hs (is := []) (p_below hF), fun a => kk_pp_op hs (is := [a]) (p_judged hF), fun a => kk_pp_op hs (is := [a]) (p_type hF), fun _ _ => p_step hF, fun a b => kk_pp_op hs (is := [a, b]) (p_entry hF), fun a b => kk_pp_op hs (is := [a, b]) (p_entryType hF), fun a => kk_pp_op hs (is := [a]) (p_keeps hF), kk_pp_op hs (is := []) (p_drops hF), fun a b => kk_pp_op hs (is := [a, b]) (p_shelf hF), fun a b => kk_pp_op hs (is := [a, b]) (p_shelfType hF), fun a => kk_pp_op hs (is := [a]) (p_worked hF), kk_pp_op hs (is := []) (p_asks hF), fun a => kk_pp_op hs (is := [a]) (p_tells hF), fun a b => kk_pp_op hs (is := [a, b]) (p_shelfBelow hF), fun a => kk_pp_op hs (is := [a]) (p_count hF), fun a => kk_pp_op hs (is := [a]) (p_byRule hF)⟩
def p1_Inv (i : Nat) (σ : am_St) : Prop := if i = 0 then kk_F σ else lw_sh σ
theorem p1_sh (i : Nat) (σ : am_St) (h : p1_Inv i σ) : lw_sh σ := by
  unfold p1_Inv at h
  split at h
  · exact kk_sh h
  · exact h
theorem p1_ops (i : Nat) (σ : am_St) (hi : i < 1) (h : p1_Inv i σ) : lw_ops (p1_Inv (i + 1)) σ := by
  obtain rfl : i = 0 := by omega
  have e : p1_Inv (0 + 1) = lw_sh := rfl
  rw [e]
  exact p_ops h
theorem p1_0 : p1_Inv 0 kk_d := kk_Fd
