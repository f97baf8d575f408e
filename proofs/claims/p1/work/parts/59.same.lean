/-! ===== a run that makes no cell leaves the shapes as they were ===== -/
section SAM
variable {call : am_I → List Value → am_St → Option (Option Value × am_St)} {mi : am_I} {pc : Nat} {L : am_L} {S : List Value} {σ : am_St} {X : am_N}
/-- no fewer cells; if no more, the same shapes and slots -/
def sm_le (σ σ' : am_St) : Prop := σ.1 ≤ σ'.1 ∧ (σ'.1 = σ.1 → σ'.2.1 = σ.2.1 ∧ σ'.2.2.1 = σ.2.2.1)
theorem sm_le.trans {a b c : am_St} (h1 : sm_le a b) (h2 : sm_le b c) : sm_le a c := by
  refine ⟨Nat.le_trans h1.1 h2.1, fun e => ?_⟩
  have e1 : b.1 = a.1 := Nat.le_antisymm (by rw [← e]; exact h2.1) h1.1
  have e2 : c.1 = b.1 := by rw [e1]; exact e
  exact ⟨(h2.2 e2).1.trans (h1.2 e1).1, (h2.2 e2).2.trans (h1.2 e1).2⟩
theorem sm_le.rf : sm_le σ σ := ⟨Nat.le_refl _, fun _ => ⟨rfl, rfl⟩⟩
def sm_X (σ : am_St) (X : am_N) : Prop := match X with
  | .inl (_, _, _, σ') => sm_le σ σ'
  | .inr (_, σ') => sm_le σ σ'
def sm_up (call : am_I → List Value → am_St → Option (Option Value × am_St)) : Prop := ∀ m as σ r σ', call m as σ = some (r, σ') → sm_le σ σ'
theorem sm_nx {σ1 : am_St} (h : am_nx pc L S σ1 = some X) (h1 : sm_le σ σ1) : sm_X σ X := by
  obtain rfl := Option.some.inj h
  exact h1
theorem sm_jp {off : Int} (h : am_jp pc off L S σ = some X) : sm_X σ X := by
  unfold am_jp at h
  split at h
  · obtain rfl := Option.some.inj h
    exact sm_le.rf
  · cases h
theorem sm_stp {i : Nat} {v : Value} (h : am_stp mi pc i L v S σ = some X) : sm_X σ X := by
  unfold am_stp at h
  split at h
  · exact sm_nx h sm_le.rf
  · cases h
theorem sm_calls {m2 : am_I} {as rest : List Value} (hup : sm_up call) (h : am_calls call m2 as pc L rest σ = some X) : sm_X σ X := by
  unfold am_calls at h
  split at h
  · split at h
    · rename_i hv
      exact sm_nx h (hup _ _ _ _ _ hv)
    · cases h
  · cases h
theorem sm_mk {ins : Instr} (h : am_mk mi ins pc L S σ = some X) : sm_X σ X := by
  have key : ∀ t n z, sm_le σ (am_al σ t n z) := fun t n z => ⟨Nat.le_add_right _ _, fun e => by
    have e' : σ.1 + 1 = σ.1 := e
    omega⟩
  unfold am_mk at h
  repeat' split at h
  all_goals first | (cases h; done) | exact sm_nx h (key _ _ _)
theorem sm_ins {ins : Instr} {len : Nat} (hup : sm_up call) (h : am_ins call mi ins len pc L S σ = some X) : sm_X σ X := by
  unfold am_ins at h
  repeat' split at h
  all_goals first
    | (cases h; done)
    | exact sm_nx h sm_le.rf
    | exact sm_stp h
    | exact sm_mk h
    | (unfold am_lds at h; repeat' split at h
       all_goals first | (cases h; done) | exact sm_nx h sm_le.rf)
    | (unfold am_sts at h; repeat' split at h
       all_goals first | (cases h; done) | exact sm_stp h)
    | (unfold am_get at h; repeat' split at h
       all_goals first | (cases h; done) | exact sm_nx h sm_le.rf)
    | (unfold am_put at h; repeat' split at h
       all_goals first | (cases h; done) | exact sm_nx h sm_le.rf)
    | (unfold am_bra at h; repeat' split at h
       all_goals first | (cases h; done) | exact sm_nx h sm_le.rf | exact sm_jp h)
    | (unfold am_arr at h; repeat' split at h
       all_goals first | (cases h; done) | exact sm_nx h sm_le.rf)
    | (unfold am_ret at h; repeat' split at h
       all_goals first | (cases h; done) | (obtain rfl := Option.some.inj h; exact sm_le.rf))
    | (unfold am_ar at h; repeat' split at h
       all_goals first | (cases h; done) | exact sm_nx h sm_le.rf)
    | (unfold am_inv am_copy at h; repeat' split at h
       all_goals first | (cases h; done) | exact sm_nx h sm_le.rf | exact sm_calls hup h)
theorem sm_go (hup : sm_up call) {r : Option Value} {σ' : am_St} : ∀ (f pc : Nat) (L : am_L) (S : List Value) (σ : am_St), am_go call mi f pc L S σ = some (r, σ') → sm_le σ σ' := by
  intro f
  induction f with
  | zero => intro pc L S σ h; exact absurd h (by simp [am_go])
  | succ f ih =>
    intro pc L S σ h
    unfold am_go at h
    match hq : am_step call mi pc L S σ with
    | none => rw [hq] at h; cases h
    | some (.inr x) =>
      rw [hq] at h
      unfold am_step at hq
      split at hq
      · have := sm_ins hup hq
        cases h
        exact this
      · cases hq
    | some (.inl (pc', L', S', σ1)) =>
      rw [hq] at h
      unfold am_step at hq
      split at hq
      · exact sm_le.trans (sm_ins hup hq) (ih _ _ _ _ h)
      · cases hq
end SAM
theorem sm_run : ∀ d, sm_up (am_run d) := by
  intro d
  induction d with
  | zero => intro m2 as σ r σ1 h; cases h
  | succ d ih =>
    intro m2 as σ r σ1 h
    unfold am_run at h
    split at h
    · obtain ⟨f, hf⟩ := am_lim_iff.mp h
      exact sm_go ih f _ _ _ _ hf
    · cases h
theorem sm_of {d : Nat} {mi : am_I} {as : List Value} {σ σ' : am_St} {r : Option Value} (h : am_run d mi as σ = some (r, σ')) (hn : σ'.1 = σ.1) : lw_sm σ σ' := ⟨hn, (sm_run d _ _ _ _ _ h).2 hn⟩
/-! what is known of the start -/
def kk_F (σ : am_St) : Prop := σ.1 = 194 ∧ (∀ k, k < 194 → kk_ok1 σ k = true) ∧ ∀ i, i < 3 → g_I σ 160 i = 0 ∧ g_I σ 175 i = 0
set_option maxRecDepth 1000000 in
theorem kk_z3 : (List.range 3).all (fun i => decide (kk_d.2.2.2.1 160 i = 0) && decide (kk_d.2.2.2.1 175 i = 0)) = true := by decide +kernel
theorem kk_Fd : kk_F kk_d := ⟨kk_n1, fun k hk => List.all_eq_true.mp kk_all k (List.mem_range.mpr hk), fun i hi => by
  have h := List.all_eq_true.mp kk_z3 i (List.mem_range.mpr hi)
  rw [Bool.and_eq_true] at h
  exact ⟨of_decide_eq_true h.1, of_decide_eq_true h.2⟩⟩
section KKF
variable {σ : am_St}
theorem kk_shp (hF : kk_F σ) {k : Nat} (hk : k < 194) : σ.2.2.1 k = kk_SH.getD k (0, 0) := by
  have h := hF.2.1 k hk
  unfold kk_ok1 at h
  rw [Bool.and_eq_true] at h
  exact of_decide_eq_true h.1
theorem kk_fld (hF : kk_F σ) {k c j : Nat} (hk : k < 194) (hc : (kk_SH.getD k (0, 0)).1 = c + 4) (hj : j < am_nf c) : (if am_isR (am_ty c j) then decide (σ.2.2.2.2 k j = kk_R k j) else decide (σ.2.2.2.1 k j = kk_I k j)) = true := by
  have h := hF.2.1 k hk
  unfold kk_ok1 at h
  rw [Bool.and_eq_true, hc] at h
  exact List.all_eq_true.mp h.2 j (List.mem_range.mpr hj)
theorem kk_fR (hF : kk_F σ) {k c j : Nat} (hk : Nat.blt k 194 = true) (hc : (kk_SH.getD k (0, 0)).1 = c + 4) (hj : Nat.blt j (am_nf c) = true) (hr : am_isR (am_ty c j) = true) : g_R σ k j = kk_R k j := by
  have h := kk_fld hF (Nat.le_of_ble_eq_true hk) hc (Nat.le_of_ble_eq_true hj)
  rw [if_pos hr] at h
  exact of_decide_eq_true h
theorem kk_fI (hF : kk_F σ) {k c j : Nat} (hk : Nat.blt k 194 = true) (hc : (kk_SH.getD k (0, 0)).1 = c + 4) (hj : Nat.blt j (am_nf c) = true) (hr : am_isR (am_ty c j) = false) : g_I σ k j = kk_I k j := by
  have h := kk_fld hF (Nat.le_of_ble_eq_true hk) hc (Nat.le_of_ble_eq_true hj)
  rw [if_neg (fun z => by rw [hr] at z; cases z)] at h
  exact of_decide_eq_true h
theorem kk_sh (hF : kk_F σ) : lw_sh σ := ⟨hF.1, fun k hk => kk_shp hF hk, kk_fR (c := 11) hF rfl rfl rfl rfl⟩
theorem kk_o (hF : kk_F σ) {k c : Nat} (hk : Nat.blt k 194 = true) (hc : (kk_SH.getD k (0, 0)).1 = c + 4) : g_o σ k c := lw_sh_o (kk_sh hF) (Nat.le_of_ble_eq_true hk) hc
theorem kk_arr (hF : kk_F σ) {k n : Nat} (hk : Nat.blt k 194 = true) (hc : kk_SH.getD k (0, 0) = (0, n)) : g_a σ k n := ⟨by rw [hF.1]; exact Nat.le_of_ble_eq_true hk, by rw [kk_shp hF (Nat.le_of_ble_eq_true hk)]; exact hc⟩
theorem kk_byt (hF : kk_F σ) {k n : Nat} (hk : Nat.blt k 194 = true) (hc : kk_SH.getD k (0, 0) = (1, n)) : g_b σ k n := ⟨by rw [hF.1]; exact Nat.le_of_ble_eq_true hk, by rw [kk_shp hF (Nat.le_of_ble_eq_true hk)]; exact hc⟩
end KKF
