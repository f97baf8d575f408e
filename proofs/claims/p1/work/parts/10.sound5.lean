section AMS4
variable {p : Program} {l : Launch} {e : Env} {R : Room} {s : State} {m : MethodId} {args : Array Value} {below : List Frame} {meth : Method} {c : Code} {H : Heap} {locs : List Loc} {Q : State → Prop}
variable {D : va_G} {cA : Nat → ClassId} {base sz n0 z0 nE zE d : Nat} {mi : am_I} {pc : Nat} {L : am_L} {S : List Value} {σ : am_St} {ls : Array Slot} {X : am_N}
variable {call : am_I → List Value → am_St → Option (Option Value × am_St)}
def am_ge (σ : am_St) (X : am_N) : Prop := match X with
  | .inl (_, _, _, σ') => σ.1 ≤ σ'.1 ∧ σ.2.1 ≤ σ'.2.1
  | .inr (_, σ') => σ.1 ≤ σ'.1 ∧ σ.2.1 ≤ σ'.2.1
theorem am_ge_nx {σ1 : am_St} (h : am_nx pc L S σ1 = some X) (h1 : σ.1 ≤ σ1.1 ∧ σ.2.1 ≤ σ1.2.1) : am_ge σ X := by
  obtain rfl := Option.some.inj h
  exact h1
theorem am_ge_jp {off : Int} (h : am_jp pc off L S σ = some X) : am_ge σ X := by
  unfold am_jp at h
  split at h
  · obtain rfl := Option.some.inj h
    exact ⟨Nat.le_refl _, Nat.le_refl _⟩
  · cases h
theorem am_ge_stp {i : Nat} {v : Value} (h : am_stp mi pc i L v S σ = some X) : am_ge σ X := by
  unfold am_stp at h
  split at h
  · exact am_ge_nx h ⟨Nat.le_refl _, Nat.le_refl _⟩
  · cases h
theorem am_rf2 : σ.1 ≤ σ.1 ∧ σ.2.1 ≤ σ.2.1 := ⟨Nat.le_refl _, Nat.le_refl _⟩
theorem am_ge_calls {m2 : am_I} {as rest : List Value} (hup : am_up call) (h : am_calls call m2 as pc L rest σ = some X) : am_ge σ X := by
  unfold am_calls at h
  split at h
  · split at h
    · rename_i hv
      exact am_ge_nx h (hup _ _ _ _ _ hv)
    · cases h
  · cases h
theorem am_ge_inv {kd idx : Nat} (hup : am_up call) (h : am_inv call mi kd idx pc L S σ = some X) : am_ge σ X := by
  unfold am_inv at h
  split at h
  · split at h
    · split at h
      · split at h
        · exact am_ge_calls hup h
        · cases h
      · cases h
    · cases h
  · split at h
    · split at h
      · unfold am_copy at h
        split at h
        · exact am_ge_nx h am_rf2
        · cases h
      · cases h
    · split at h
      · split at h
        · split at h
          · exact am_ge_nx h am_rf2
          · cases h
        · cases h
      · split at h
        · split at h
          · split at h
            · exact am_ge_nx h am_rf2
            · cases h
          · cases h
        · split at h
          · split at h
            · exact am_ge_calls hup h
            · cases h
          · cases h
  · split at h
    · split at h
      · split at h
        · exact am_ge_nx h am_rf2
        · cases h
      · cases h
    · split at h
      · split at h
        · exact am_ge_calls hup h
        · cases h
      · cases h
theorem am_ge_get {idx : Nat} (h : am_get mi idx pc L S σ = some X) : am_ge σ X := by
  unfold am_get at h
  repeat' split at h
  all_goals first | (cases h; done) | exact am_ge_nx h am_rf2
theorem am_ge_put {idx : Nat} (h : am_put mi idx pc L S σ = some X) : am_ge σ X := by
  unfold am_put at h
  repeat' split at h
  all_goals first | (cases h; done) | exact am_ge_nx h am_rf2
theorem am_ge_arr {ins : Instr} (h : am_arr ins pc L S σ = some X) : am_ge σ X := by
  unfold am_arr at h
  repeat' split at h
  all_goals first | (cases h; done) | exact am_ge_nx h am_rf2
theorem am_ge_mk {ins : Instr} (h : am_mk mi ins pc L S σ = some X) : am_ge σ X := by
  unfold am_mk at h
  repeat' split at h
  all_goals first | (cases h; done) | exact am_ge_nx h ⟨Nat.le_add_right _ _, Nat.le_add_right _ _⟩
theorem am_ge_ar {ins : Instr} (h : am_ar ins pc L S σ = some X) : am_ge σ X := by
  unfold am_ar at h
  repeat' split at h
  all_goals first | (cases h; done) | exact am_ge_nx h am_rf2
theorem am_ge_lds {n len i : Nat} (h : am_lds n len pc i L S σ = some X) : am_ge σ X := by
  unfold am_lds at h
  repeat' split at h
  all_goals first | (cases h; done) | exact am_ge_nx h am_rf2
theorem am_ge_sts {n len i : Nat} (h : am_sts n len mi pc i L S σ = some X) : am_ge σ X := by
  unfold am_sts at h
  repeat' split at h
  all_goals first | (cases h; done) | exact am_ge_stp h
theorem am_ge_bra {ins : Instr} (h : am_bra ins pc L S σ = some X) : am_ge σ X := by
  unfold am_bra at h
  repeat' split at h
  all_goals first | (cases h; done) | exact am_ge_jp h | exact am_ge_nx h am_rf2
theorem am_ge_ret {ins : Instr} (h : am_ret mi ins S σ = some X) : am_ge σ X := by
  unfold am_ret at h
  repeat' split at h
  all_goals first | (cases h; done) | (obtain rfl := Option.some.inj h; exact am_rf2)
theorem am_ge_ins {ins : Instr} {len : Nat} (hup : am_up call) (h : am_ins call mi ins len pc L S σ = some X) : am_ge σ X := by
  unfold am_ins at h
  repeat' split at h
  all_goals first | (cases h; done) | exact am_ge_nx h am_rf2 | exact am_ge_lds h | exact am_ge_sts h | exact am_ge_stp h | exact am_ge_get h | exact am_ge_put h | exact am_ge_inv hup h | exact am_ge_mk h | exact am_ge_ret h | exact am_ge_bra h | exact am_ge_arr h | exact am_ge_ar h
theorem am_ge_step (hup : am_up call) (h : am_step call mi pc L S σ = some X) : am_ge σ X := by
  unfold am_step at h
  split at h
  · exact am_ge_ins hup h
  · cases h
theorem am_ge_go (hup : am_up call) {r : Option Value} {σ' : am_St} : ∀ (f pc : Nat) (L : am_L) (S : List Value) (σ : am_St), am_go call mi f pc L S σ = some (r, σ') → σ.1 ≤ σ'.1 ∧ σ.2.1 ≤ σ'.2.1 := by
  intro f
  induction f with
  | zero => intro pc L S σ h; exact absurd h (by simp [am_go])
  | succ f ih =>
    intro pc L S σ h
    unfold am_go at h
    match hq : am_step call mi pc L S σ with
    | none => rw [hq] at h; cases h
    | some (.inr x) =>
      rw [hq] at h
      have := am_ge_step hup hq
      cases h
      exact this
    | some (.inl (pc', L', S', σ1)) =>
      rw [hq] at h
      have h1 := am_ge_step hup hq
      have h2 := ih _ _ _ _ h
      exact ⟨Nat.le_trans h1.1 h2.1, Nat.le_trans h1.2 h2.2⟩
theorem am_up_run : ∀ d, am_up (am_run d) := by
  intro d
  induction d with
  | zero => intro m2 as σ r σ1 h; cases h
  | succ d ih =>
    intro m2 as σ r σ1 h
    unfold am_run at h
    split at h
    · obtain ⟨f, hf⟩ := am_lim_iff.mp h
      exact am_ge_go ih f _ _ _ _ hf
    · cases h
/-- returns -/
theorem am_s_ret {ins : Instr} {r : Option Value} {σE : am_St} (hC : am_Cx p R s m args meth c D cA base sz n0 z0 nE zE d mi) (hd : decode mi.2.2.1 pc = .ok (ins, 1)) (h : am_ret mi ins S σ = some (.inr (r, σE))) (hp : am_Pt s D cA base sz n0 mi σ L H locs ls) (hn : n0 ≤ σ.1) (hσ : σ.1 ≤ nE) {σ0 : am_St} (h0 : σ0.1 = n0) : W p l e R s m args below meth c H locs (σ.1 - n0) (σ.2.1 - z0) (MQ below (am_Q D cA base sz σ0 r σE) args s (σE.1 - n0) (σE.2.1 - z0) (am_A base sz n0)) (F0 m pc ls (S.map (am_v base))) := by
  obtain ⟨hx, hb, hr, -, -, -, hlk, -, hK, ⟨hs, hal⟩, -⟩ := hC
  subst h0
  refine am_size (fun hz1 => ?_)
  have hsz := am_sz hp.1 hp.2.1 hs hal hσ hn hz1
  have hPt : ∀ t : State, t.heap = H → s.WarmedH t.vm → am_P D cA base (sz + (σ.1 - σ0.1)) σ t := fun t ht hW => ⟨by rw [ht]; exact hsz, by rw [ht]; exact hp.1, am_K.moved hW.alike hK⟩
  unfold am_ret at h
  split at h
  · rename_i v ty he
    split at h
    · rename_i hc
      cases h
      exact W.zret hx hb (hr.trans he) hc (fun t ht hW => ⟨rfl, hPt t ht hW, hp.2.1.F ht⟩) hp.2.1.2.2 hd hlk
    · cases h
  · rename_i he
    cases h
    exact W.vret hx hb (hr.trans he) (fun t ht hW => ⟨rfl, hPt t ht hW, hp.2.1.F ht⟩) hp.2.1.2.2 hd hlk
  · rename_i v n he
    cases h
    exact W.aret (v := .ref (base + v)) hx hb (hr.trans he) (Or.inl ⟨n, rfl⟩) (Or.inr ⟨_, rfl⟩) (fun t ht hW => ⟨rfl, hPt t ht hW, hp.2.1.F ht⟩) hp.2.1.2.2 hd hlk
  · cases h
theorem am_con_ok {own idx : Nat} {v : Int32} (h : am_co own idx = some v) : Cond.constant (am_Rn own) idx v ∈ lw_good := by
  unfold am_co at h
  obtain ⟨e, he, h1⟩ := Option.map_eq_some_iff.mp h
  have hm := List.mem_of_find?_eq_some he
  have hf := List.find?_some he
  simp only [Bool.and_eq_true, beq_iff_eq] at hf
  have hk := am_at_mem (List.all_eq_true.mp am_okk_all e hm)
  rw [hf.1, hf.2, h1] at hk
  exact hk
theorem am_conj_ok {own idx : Nat} {v : Int64} (h : am_cj own idx = some v) : Cond.constantLong (am_Rn own) idx v ∈ lw_good := by
  unfold am_cj at h
  obtain ⟨e, he, h1⟩ := Option.map_eq_some_iff.mp h
  have hm := List.mem_of_find?_eq_some he
  have hf := List.find?_some he
  simp only [Bool.and_eq_true, beq_iff_eq] at hf
  have hk := am_at_mem (List.all_eq_true.mp am_okj_all e hm)
  rw [hf.1, hf.2, h1] at hk
  exact hk
/-- every instruction that isn't a return -/
theorem am_s_ins {ins : Instr} {len : Nat} (hC : am_Cx p R s m args meth c D cA base sz n0 z0 nE zE d mi) (hd : decode mi.2.2.1 pc = .ok (ins, len)) (h : am_ins call mi ins len pc L S σ = some X) (hX : ∃ q, X = .inl q) (hk : am_Wn p l e R s m args below meth c D cA base sz n0 z0 mi Q X) (hp : am_Pt s D cA base sz n0 mi σ L H locs ls) (hn : n0 ≤ σ.1) (hz : z0 ≤ σ.2.1)
    (hE : ∀ pc' L' S' σ', X = .inl (pc', L', S', σ') → σ'.1 ≤ nE ∧ σ'.2.1 ≤ zE) (hCO : am_CO l D cA base d call) (hup : am_up call) (hσ : σ.1 ≤ nE ∧ σ.2.1 ≤ zE) : W p l e R s m args below meth c H locs (σ.1 - n0) (σ.2.1 - z0) Q (F0 m pc ls (S.map (am_v base))) := by
  have hC' := hC
  obtain ⟨hx, hb, -, -, hown, hts, -⟩ := hC'
  have nret : ∀ {i : Instr}, am_ret mi i S σ = some X → False := by
    intro i hi
    obtain ⟨q, rfl⟩ := hX
    unfold am_ret at hi
    repeat' split at hi
    all_goals cases hi
  unfold am_ins at h
  split at h
  · split at h
    · rename_i hl; subst hl; exact lv_iconst hx hb hd rfl (am_nx_k h hk _ _ _ hp)
    · cases h
  · split at h
    · rename_i hl; subst hl; exact lv_bipush hx hb hd rfl (am_nx_k h hk _ _ _ hp)
    · cases h
  · split at h
    · rename_i hl; subst hl; exact lv_sipush hx hb hd rfl (am_nx_k h hk _ _ _ hp)
    · cases h
  · split at h
    · rename_i hl; subst hl; exact lv_lconst hx hb hd rfl (am_nx_k h hk _ _ _ hp)
    · cases h
  · split at h
    · rename_i hl; subst hl
      split at h
      · rename_i hv; exact lv_ldc hx hb hown (hts _ (am_con_ok hv)) hd (am_nx_k h hk _ _ _ hp)
      · cases h
    · cases h
  · split at h
    · rename_i hl; subst hl
      split at h
      · rename_i hv; exact lv_ldcw hx hb hown (hts _ (am_con_ok hv)) hd (am_nx_k h hk _ _ _ hp)
      · cases h
    · cases h
  · split at h
    · rename_i hl; subst hl
      split at h
      · rename_i hv; exact lv_ldc2 hx hb hown (hts _ (am_conj_ok hv)) hd (am_nx_k h hk _ _ _ hp)
      · cases h
    · cases h
  · split at h
    · rename_i k hl; subst hl; exact am_s_lds hC (Or.inl ⟨rfl, Or.inl ⟨k, rfl, rfl, hd⟩⟩) h hk hp
    · cases h
  · split at h
    · rename_i hl; subst hl; exact am_s_lds hC (Or.inl ⟨rfl, Or.inr ⟨rfl, hd⟩⟩) h hk hp
    · cases h
  · split at h
    · rename_i k hl; subst hl; exact am_s_lds hC (Or.inr (Or.inl ⟨rfl, Or.inl ⟨k, rfl, rfl, hd⟩⟩)) h hk hp
    · cases h
  · split at h
    · rename_i hl; subst hl; exact am_s_lds hC (Or.inr (Or.inl ⟨rfl, Or.inr ⟨rfl, hd⟩⟩)) h hk hp
    · cases h
  · split at h
    · rename_i k hl; subst hl; exact am_s_lds hC (Or.inr (Or.inr ⟨rfl, Or.inl ⟨k, rfl, rfl, hd⟩⟩)) h hk hp
    · cases h
  · split at h
    · rename_i hl; subst hl; exact am_s_lds hC (Or.inr (Or.inr ⟨rfl, Or.inr ⟨rfl, hd⟩⟩)) h hk hp
    · cases h
  · split at h
    · rename_i k hl; subst hl; exact am_s_sts hC (Or.inl ⟨rfl, Or.inl ⟨k, rfl, rfl, hd⟩⟩) h hk hp
    · cases h
  · split at h
    · rename_i hl; subst hl; exact am_s_sts hC (Or.inl ⟨rfl, Or.inr ⟨rfl, hd⟩⟩) h hk hp
    · cases h
  · split at h
    · rename_i k hl; subst hl; exact am_s_sts hC (Or.inr ⟨rfl, Or.inl ⟨k, rfl, rfl, hd⟩⟩) h hk hp
    · cases h
  · split at h
    · rename_i hl; subst hl; exact am_s_sts hC (Or.inr ⟨rfl, Or.inr ⟨rfl, hd⟩⟩) h hk hp
    · cases h
  · split at h
    · rename_i hl; subst hl
      split at h
      · rename_i hv; exact am_s_iinc hC hd hv h hk hp
      · cases h
    · cases h
  · split at h
    · rename_i hl; subst hl; exact am_s_get hC hd h hk hp
    · cases h
  · split at h
    · rename_i hl; subst hl; exact am_s_put hC hd h hk hσ.1 hp
    · cases h
  · split at h
    · rename_i hl; subst hl; exact am_s_inv hC (Or.inl ⟨rfl, hd⟩) h hk hp hn hz hE hCO hup hσ
    · cases h
  · split at h
    · rename_i hl; subst hl; exact am_s_inv hC (Or.inr (Or.inl ⟨rfl, hd⟩)) h hk hp hn hz hE hCO hup hσ
    · cases h
  · split at h
    · rename_i hl; subst hl; exact am_s_inv hC (Or.inr (Or.inr ⟨rfl, hd⟩)) h hk hp hn hz hE hCO hup hσ
    · cases h
  · split at h
    · rename_i hl; subst hl; exact am_s_mk hC hd ⟨fun _ => rfl, (fun ⟨_, q⟩ => by cases q), (fun ⟨_, q⟩ => by cases q)⟩ h hk hp hn hz hE
    · cases h
  · split at h
    · rename_i hl; subst hl; exact am_s_mk hC hd ⟨(fun ⟨_, q⟩ => by cases q), fun _ => rfl, (fun ⟨_, q⟩ => by cases q)⟩ h hk hp hn hz hE
    · cases h
  · split at h
    · rename_i hl; subst hl; exact am_s_mk hC hd ⟨(fun ⟨_, q⟩ => by cases q), (fun ⟨_, q⟩ => by cases q), fun _ => rfl⟩ h hk hp hn hz hE
    · cases h
  · split at h
    · exact (nret h).elim
    · cases h
  · split at h
    · exact (nret h).elim
    · cases h
  · split at h
    · exact (nret h).elim
    · cases h
  · split at h
    · rename_i hl; subst hl; exact am_s_bra hC hd (fun _ => rfl) h hk hp
    · cases h
  · split at h
    · rename_i hl; subst hl; exact am_s_bra hC hd (fun _ => rfl) h hk hp
    · cases h
  · split at h
    · rename_i hl; subst hl; exact am_s_bra hC hd (fun _ => rfl) h hk hp
    · cases h
  · split at h
    · rename_i hl; subst hl; exact am_s_bra hC hd (fun _ => rfl) h hk hp
    · cases h
  · exact am_s_bra hC hd (fun q => by rcases q with ⟨_, _, q⟩ | ⟨_, _, q⟩ | ⟨_, q⟩ | ⟨_, q⟩ <;> cases q) h hk hp
  · exact am_s_bra hC hd (fun q => by rcases q with ⟨_, _, q⟩ | ⟨_, _, q⟩ | ⟨_, q⟩ | ⟨_, q⟩ <;> cases q) h hk hp
  · split at h
    · rename_i hl; subst hl; exact am_s_arr hC hd h hk hσ.1 hp
    · cases h
  · split at h
    · rename_i hl; subst hl; exact am_s_arr hC hd h hk hσ.1 hp
    · cases h
  · split at h
    · rename_i hl; subst hl; exact am_s_arr hC hd h hk hσ.1 hp
    · cases h
  · split at h
    · rename_i hl; subst hl; exact am_s_arr hC hd h hk hσ.1 hp
    · cases h
  · split at h
    · rename_i hl; subst hl; exact am_s_arr hC hd h hk hσ.1 hp
    · cases h
  · split at h
    · rename_i hl; subst hl; exact am_s_arr hC hd h hk hσ.1 hp
    · cases h
  · split at h
    · rename_i hl; subst hl; exact am_s_arr hC hd h hk hσ.1 hp
    · cases h
  · split at h
    · rename_i hl; subst hl; exact am_s_ar hC hd h hk hp
    · cases h
/-- a return is one -/
theorem am_ins_ret {ins : Instr} {len : Nat} {r : Option Value} {σE : am_St} (h : am_ins call mi ins len pc L S σ = some (.inr (r, σE))) : len = 1 ∧ am_ret mi ins S σ = some (.inr (r, σE)) := by
  have nx : ∀ {pc L S σ1}, am_nx pc L S σ1 = some (.inr (r, σE)) → False := fun h => by cases h
  have jp : ∀ {pc off L S σ1}, am_jp pc off L S σ1 = some (.inr (r, σE)) → False := fun h => by
    unfold am_jp at h
    split at h <;> cases h
  have sp : ∀ {pc i L v S σ1}, am_stp mi pc i L v S σ1 = some (.inr (r, σE)) → False := fun h => by
    unfold am_stp at h
    split at h <;> cases h
  have cs : ∀ {m2 as pc L rest σ1}, am_calls call m2 as pc L rest σ1 = some (.inr (r, σE)) → False := fun h => by
    unfold am_calls at h
    repeat' split at h
    all_goals cases h
  unfold am_ins at h
  repeat' split at h
  all_goals first
    | (cases h; done)
    | exact (nx h).elim
    | exact (sp h).elim
    | (rename_i hl; exact ⟨hl, h⟩)
    | (exfalso; unfold am_lds at h; repeat' split at h
       all_goals first | (cases h; done) | exact nx h)
    | (exfalso; unfold am_sts at h; repeat' split at h
       all_goals first | (cases h; done) | exact sp h)
    | (exfalso; unfold am_get at h; repeat' split at h
       all_goals first | (cases h; done) | exact nx h)
    | (exfalso; unfold am_put at h; repeat' split at h
       all_goals first | (cases h; done) | exact nx h)
    | (exfalso; unfold am_mk at h; repeat' split at h
       all_goals first | (cases h; done) | exact nx h)
    | (exfalso; unfold am_bra at h; repeat' split at h
       all_goals first | (cases h; done) | exact nx h | exact jp h)
    | (exfalso; unfold am_arr at h; repeat' split at h
       all_goals first | (cases h; done) | exact nx h)
    | (exfalso; unfold am_ar at h; repeat' split at h
       all_goals first | (cases h; done) | exact nx h)
    | (exfalso; unfold am_inv am_copy at h; repeat' split at h
       all_goals first | (cases h; done) | exact nx h | exact cs h)
theorem am_s_go {r : Option Value} {σE : am_St} (hC : am_Cx p R s m args meth c D cA base sz n0 z0 σE.1 σE.2.1 d mi) (hCO : am_CO l D cA base d call) (hup : am_up call) {σ0 : am_St} (h0 : σ0.1 = n0) : ∀ (f pc : Nat) (L : am_L) (S : List Value) (σ : am_St), am_go call mi f pc L S σ = some (r, σE) → n0 ≤ σ.1 → z0 ≤ σ.2.1 → am_Wt p l e R s m args below meth c D cA base sz n0 z0 mi (MQ below (am_Q D cA base sz σ0 r σE) args s (σE.1 - n0) (σE.2.1 - z0) (am_A base sz n0)) pc L S σ := by
  intro f
  induction f with
  | zero => intro pc L S σ h; exact absurd h (by simp [am_go])
  | succ f ih =>
    intro pc L S σ h hn hz H locs ls hp
    have hσ := am_ge_go hup _ _ _ _ _ h
    unfold am_go at h
    match hq : am_step call mi pc L S σ with
    | none => rw [hq] at h; cases h
    | some (.inr x) =>
      rw [hq] at h
      obtain rfl := Option.some.inj h
      unfold am_step at hq
      split at hq
      · rename_i ins len hd
        obtain ⟨rfl, hr⟩ := am_ins_ret hq
        exact am_s_ret hC hd hr hp hn hσ.1 h0
      · cases hq
    | some (.inl (pc', L', S', σ1)) =>
      rw [hq] at h
      have h1 := am_ge_step hup hq
      have h2 := am_ge_go hup _ _ _ _ _ h
      unfold am_step at hq
      split at hq
      · rename_i ins len hd
        refine am_s_ins hC hd hq ⟨_, rfl⟩ (ih _ _ _ _ h (Nat.le_trans hn h1.1) (Nat.le_trans hz h1.2)) hp hn hz (fun _ _ _ σ' q => ?_) hCO hup hσ
        cases q
        exact h2
      · cases hq
end AMS4
