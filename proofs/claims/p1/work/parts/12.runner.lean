/-! ===== runs that can be worked out ===== -/
def am_rn : Nat → Nat → am_I → List Value → am_St → Option (Option Value × am_St)
  | 0, _, _, _, _ => none
  | d + 1, f, mi, args, σ => if (am_ex args).length ≤ mi.2.2.2.1 ∧ mi.2.2.2.1 ≤ 20 ∧ (mi.2.2.2.2.2.2 = true ∨ args.all (fun v => v.category == 1) = true) then am_go (am_rn d f) mi f 0 (am_en mi args) [] σ else none
def am_sub (call call' : am_I → List Value → am_St → Option (Option Value × am_St)) : Prop := ∀ m as σ r, call m as σ = some r → call' m as σ = some r
theorem am_calls_sub {call call' : am_I → List Value → am_St → Option (Option Value × am_St)} (hs : am_sub call call') {m2 : am_I} {as rest : List Value} {pc : Nat} {L : am_L} {σ : am_St} {X : am_N} (h : am_calls call m2 as pc L rest σ = some X) : am_calls call' m2 as pc L rest σ = some X := by
  unfold am_calls at h ⊢
  split at h
  · rename_i hc
    rw [if_pos hc]
    split at h
    · rename_i hv
      rw [hs _ _ _ _ hv]
      exact h
    · cases h
  · cases h
theorem am_inv_sub {call call' : am_I → List Value → am_St → Option (Option Value × am_St)} (hs : am_sub call call') {mi : am_I} {kd idx pc : Nat} {L : am_L} {S : List Value} {σ : am_St} {X : am_N} (h : am_inv call mi kd idx pc L S σ = some X) : am_inv call' mi kd idx pc L S σ = some X := by
  rcases kd with _ | _ | kd
  · simp only [am_inv] at h ⊢
    split at h
    · rename_i m2 hm
      try dsimp only
      split at h
      · rename_i hd
        try rw [hd]
        try dsimp only
        split at h
        · rename_i hc
          rw [if_pos hc]
          exact am_calls_sub hs h
        · cases h
      · cases h
    · cases h
  · simp only [am_inv] at h ⊢
    split at h
    · rename_i hc
      rw [if_pos hc]
      exact h
    · rename_i hc
      rw [if_neg hc]
      split at h
      · rename_i hc
        rw [if_pos hc]
        exact h
      · rename_i hc
        rw [if_neg hc]
        split at h
        · rename_i hc
          rw [if_pos hc]
          exact h
        · rename_i hc
          rw [if_neg hc]
          split at h
          · rename_i m2 hm
            split at h
            · rename_i hc
              simp only [if_pos hc]
              exact am_calls_sub hs h
            · cases h
          · cases h
  · simp only [am_inv] at h ⊢
    split at h
    · rename_i hc
      rw [if_pos hc]
      exact h
    · rename_i hc
      rw [if_neg hc]
      split at h
      · rename_i m2 hm
        try dsimp only
        split at h
        · rename_i hd
          try rw [hd]
          exact am_calls_sub hs h
        · cases h
      · cases h
theorem am_step_sub {call call' : am_I → List Value → am_St → Option (Option Value × am_St)} (hs : am_sub call call') {mi : am_I} {pc : Nat} {L : am_L} {S : List Value} {σ : am_St} {X : am_N} (h : am_step call mi pc L S σ = some X) : am_step call' mi pc L S σ = some X := by
  unfold am_step at h ⊢
  split at h
  · rename_i ins len hd
    unfold am_ins at h ⊢
    cases ins <;> first
      | exact h
      | (simp only at h ⊢
         split at h
         · rename_i hl
           rw [if_pos hl]
           exact am_inv_sub hs h
         · cases h)
  · cases h
theorem am_go_sub {call call' : am_I → List Value → am_St → Option (Option Value × am_St)} (hs : am_sub call call') {mi : am_I} {r : Option Value × am_St} : ∀ (f pc : Nat) (L : am_L) (S : List Value) (σ : am_St), am_go call mi f pc L S σ = some r → am_go call' mi f pc L S σ = some r := by
  intro f
  induction f with
  | zero => intro pc L S σ h; exact absurd h (by simp [am_go])
  | succ f ih =>
    intro pc L S σ h
    unfold am_go at h ⊢
    match hq : am_step call mi pc L S σ with
    | none => rw [hq] at h; cases h
    | some (.inr x) => rw [hq] at h; rw [am_step_sub hs hq]; exact h
    | some (.inl (pc', L', S', σ1)) => rw [hq] at h; rw [am_step_sub hs hq]; exact ih _ _ _ _ h
theorem am_rn_run : ∀ (d f : Nat), am_sub (am_rn d f) (am_run d) := by
  intro d
  induction d with
  | zero => intro f m as σ r h; cases h
  | succ d ih =>
    intro f m as σ r h
    unfold am_rn at h
    unfold am_run
    split at h
    · rename_i hc
      rw [if_pos hc]
      exact am_lim_iff.mpr ⟨f, am_go_sub (ih f) f _ _ _ _ h⟩
    · cases h
/-- more depth does no harm -/
theorem am_run_up : ∀ (d : Nat), am_sub (am_run d) (am_run (d + 1)) := by
  intro d
  induction d with
  | zero => intro m as σ r h; cases h
  | succ d ih =>
    intro m as σ r h
    unfold am_run at h
    rw [am_run]
    split at h
    · rename_i hc
      rw [if_pos hc]
      obtain ⟨f, hf⟩ := am_lim_iff.mp h
      exact am_lim_iff.mpr ⟨f, am_go_sub ih f _ _ _ _ hf⟩
    · cases h
theorem am_run_le {d d' : Nat} (h : d ≤ d') : am_sub (am_run d) (am_run d') := by
  induction h with
  | refl => exact fun _ _ _ _ h => h
  | step _ ih => exact fun m as σ r h => am_run_up _ m as σ r (ih m as σ r h)
/-- many steps, none of them a return -/
def am_wk (call : am_I → List Value → am_St → Option (Option Value × am_St)) (mi : am_I) : Nat → Nat → am_L → List Value → am_St → Option (Nat × am_L × List Value × am_St)
  | 0, pc, L, S, σ => some (pc, L, S, σ)
  | f + 1, pc, L, S, σ => match am_step call mi pc L S σ with
    | some (.inl (pc', L', S', σ')) => am_wk call mi f pc' L' S' σ'
    | _ => none
