section LW1
variable {p : Program} {l : Launch} {e : Env} {R : Room} {s : State} {m : MethodId} {args : Array Value} {below : List Frame} {meth : Method} {c : Code} {H : Heap} {locs : List Loc} {Q : State → Prop}
variable {D : va_G} {cA : Nat → ClassId} {base sz n0 z0 d : Nat} {mi : am_I}
variable {call : am_I → List Value → am_St → Option (Option Value × am_St)}
theorem am_ge_wk (hup : am_up call) {pc' : Nat} {L' : am_L} {S' : List Value} {σ' : am_St} : ∀ (f pc : Nat) (L : am_L) (S : List Value) (σ : am_St), am_wk call mi f pc L S σ = some (pc', L', S', σ') → σ.1 ≤ σ'.1 ∧ σ.2.1 ≤ σ'.2.1 := by
  intro f
  induction f with
  | zero => intro pc L S σ h; cases h; exact ⟨Nat.le_refl _, Nat.le_refl _⟩
  | succ f ih =>
    intro pc L S σ h
    unfold am_wk at h
    match hq : am_step call mi pc L S σ with
    | none => rw [hq] at h; cases h
    | some (.inr x) => rw [hq] at h; cases h
    | some (.inl (pc1, L1, S1, σ1)) =>
      rw [hq] at h
      have h1 := am_ge_step hup hq
      have h2 := ih _ _ _ _ h
      exact ⟨Nat.le_trans h1.1 h2.1, Nat.le_trans h1.2 h2.2⟩
/-- many steps of the machine: from where they come to, it goes well; so from where they begin -/
theorem am_s_wk {pc' : Nat} {L' : am_L} {S' : List Value} {σE : am_St} (hC : am_Cx p R s m args meth c D cA base sz n0 z0 σE.1 σE.2.1 d mi) (hCO : am_CO l D cA base d call) (hup : am_up call) : ∀ (f pc : Nat) (L : am_L) (S : List Value) (σ : am_St), am_wk call mi f pc L S σ = some (pc', L', S', σE) → n0 ≤ σ.1 → z0 ≤ σ.2.1 → am_Wt p l e R s m args below meth c D cA base sz n0 z0 mi Q pc' L' S' σE → am_Wt p l e R s m args below meth c D cA base sz n0 z0 mi Q pc L S σ := by
  intro f
  induction f with
  | zero => intro pc L S σ h _ _ kk; cases h; exact kk
  | succ f ih =>
    intro pc L S σ h hn hz kk H locs ls hp
    have hσ := am_ge_wk hup _ _ _ _ _ h
    unfold am_wk at h
    match hq : am_step call mi pc L S σ with
    | none => rw [hq] at h; cases h
    | some (.inr x) => rw [hq] at h; cases h
    | some (.inl (pc1, L1, S1, σ1)) =>
      rw [hq] at h
      have h1 := am_ge_step hup hq
      have h2 := am_ge_wk hup _ _ _ _ _ h
      unfold am_step at hq
      split at hq
      · rename_i ins len hd
        refine am_s_ins hC hd hq ⟨_, rfl⟩ (ih _ _ _ _ h (Nat.le_trans hn h1.1) (Nat.le_trans hz h1.2) kk) hp hn hz (fun _ _ _ σ' q => ?_) hCO hup hσ
        cases q
        exact h2
      · cases hq
end LW1
theorem am_wk_sub {call call' : am_I → List Value → am_St → Option (Option Value × am_St)} (hs : am_sub call call') {mi : am_I} {r : Nat × am_L × List Value × am_St} : ∀ (f pc : Nat) (L : am_L) (S : List Value) (σ : am_St), am_wk call mi f pc L S σ = some r → am_wk call' mi f pc L S σ = some r := by
  intro f
  induction f with
  | zero => intro pc L S σ h; exact h
  | succ f ih =>
    intro pc L S σ h
    unfold am_wk at h ⊢
    match hq : am_step call mi pc L S σ with
    | none => rw [hq] at h; cases h
    | some (.inr x) => rw [hq] at h; cases h
    | some (.inl (pc', L', S', σ1)) => rw [hq] at h; rw [am_step_sub hs hq]; exact ih _ _ _ _ h
/-- the tables' classes at the start -/
theorem am_K0 {s : State} {args : Array Value} (hts : ∀ w ∈ lw_tbl, w.before args s = true) : ∃ (D : va_G) (cA : Nat → ClassId), am_K D cA s := by
  have hg : ∀ w ∈ lw_good, w.before args s = true := fun w hw => hts w (List.mem_filter.mp hw).1
  have key : ∀ ci, ci < 13 → Cond.instantiable (am_Rn ci) (am_nf ci) ∈ lw_good → ∃ (cC : ClassId) (iS : Nat → Nat), u_Kn s (am_Rn ci) (am_T ci) (am_nf ci) cC iS := fun ci h hw => u_known hg (am_ws_ok ci h) (hg _ hw)
  have hin : ∀ ci, ci < 13 → Cond.instantiable (am_Rn ci) (am_nf ci) ∈ lw_good := by
    intro ci h
    have h1 : (List.range 13).all (fun ci => am_clsL.any (fun e => e.2.2.1 == ci && am_okc e)) = true := by
      have : (List.range 13).all (fun ci => am_clsL.any (fun e => e.2.2.1 == ci)) = true := by decide +kernel
      refine List.all_eq_true.mpr (fun c hc => ?_)
      obtain ⟨e, h1, h2⟩ := List.any_eq_true.mp (List.all_eq_true.mp this c hc)
      exact List.any_eq_true.mpr ⟨e, h1, by rw [Bool.and_eq_true]; exact ⟨h2, List.all_eq_true.mp am_okc_all e h1⟩⟩
    obtain ⟨e, -, h2⟩ := List.any_eq_true.mp (List.all_eq_true.mp h1 ci (List.mem_range.mpr h))
    simp only [am_okc, Bool.and_eq_true, beq_iff_eq] at h2
    have := am_at_mem h2.2.1.1.2
    rw [h2.1] at this
    exact this
  have hall : ∃ (dC : Nat → ClassId) (dI : Nat → Nat → Nat), ∀ ci, ci < 13 → u_Kn s (am_Rn ci) (am_T ci) (am_nf ci) (dC ci) (dI ci) := by
    have : ∀ ci, ∃ (q : ClassId × (Nat → Nat)), ci < 13 → u_Kn s (am_Rn ci) (am_T ci) (am_nf ci) q.1 q.2 := by
      intro ci
      by_cases h : ci < 13
      · obtain ⟨a, b, hab⟩ := key ci h (hin ci h)
        exact ⟨(a, b), fun _ => hab⟩
      · exact ⟨(0, fun _ => 0), fun q => absurd q h⟩
    refine ⟨fun ci => (Classical.choose (this ci)).1, fun ci => (Classical.choose (this ci)).2, fun ci h => Classical.choose_spec (this ci) h⟩
  obtain ⟨dC, dI, hK⟩ := hall
  have harr : ∀ ty : FieldType, Cond.arrayClass ty ∈ lw_good → (∀ C, ty ≠ .object C) → ∃ c, ArrOfT s c ty ∧ va_RA s c ty := by
    intro ty hw hno
    obtain ⟨c, k, comp, h1, h2, h3⟩ := Cond.arrayClass_spec (hg _ hw)
    refine ⟨c, fun n z => ⟨(fun q h => by cases h), k, h2, comp, h3⟩, ?_⟩
    cases ty <;> first | exact h1 | exact absurd rfl (hno _)
  have hov : ∀ C : String, va_AO C s → ∃ c, ArrOfT s c (.object C) ∧ va_RA s c (.object C) := by
    intro C h
    obtain ⟨comp, c, k, h1, h2, h3, h4, h5⟩ := Cond.arrayOver_spec h
    exact ⟨c, fun n z => ⟨(fun q h => by cases h), k, h3, comp, h4⟩, k, comp, h3, h4, h1, h5⟩
  have o4 : va_AO RX4 s := va_AO.of (hts (.arrayOver (.object RX4)) (am_ch_in 1 (by decide +kernel)))
  have o7 : va_AO RX7 s := va_AO.of (hts (.arrayOver (.object RX7)) (am_ch_in 1 (by decide +kernel)))
  obtain ⟨c0, a0⟩ := harr .int (am_at_mem am_okA.1) (fun _ h => by cases h)
  obtain ⟨c1, a1⟩ := harr .byte (am_at_mem am_okA.2.1) (fun _ h => by cases h)
  obtain ⟨c2, a2⟩ := hov RX4 o4
  obtain ⟨c3, a3⟩ := hov RX7 o7
  refine ⟨(dC, dI), fun k => match k with
    | 0 => c0
    | 1 => c1
    | 2 => c2
    | _ => c3, ⟨fun ci q hq => ?_, fun k q hq => ?_⟩, o4, o7⟩
  · have h : ci < 13 := by
      have := (List.getElem?_eq_some_iff.mp hq).1
      exact this
    rw [am_cl_ok ci h] at hq
    cases hq
    exact hK ci h
  · match k, hq with
    | 0, hq => cases hq; exact a0
    | 1, hq => cases hq; exact a1
    | 2, hq => cases hq; exact a2
    | 3, hq => cases hq; exact a3
    | k + 4, hq => simp [am_tys] at hq
