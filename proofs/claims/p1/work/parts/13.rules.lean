/-! ===== one instruction, as an equation of the limit ===== -/
def g_I (σ : am_St) (k j : Nat) : Int32 := σ.2.2.2.1 k j
def g_R (σ : am_St) (k j : Nat) : Option Nat := σ.2.2.2.2 k j
/-- a cell is an object of a class; a row of ints of a length .. -/
def g_o (σ : am_St) (k c : Nat) : Prop := k < σ.1 ∧ (σ.2.2.1 k).1 = c + 4
def g_a (σ : am_St) (k n : Nat) : Prop := k < σ.1 ∧ σ.2.2.1 k = (0, n)
def g_b (σ : am_St) (k n : Nat) : Prop := k < σ.1 ∧ σ.2.2.1 k = (1, n)
def g_q (σ : am_St) (k n : Nat) : Prop := k < σ.1 ∧ (σ.2.2.1 k = (2, n) ∨ σ.2.2.1 k = (3, n))
theorem g_I_sI (σ : am_St) (k j : Nat) (v : Int32) (a b : Nat) : g_I (am_sI σ k j v) a b = if a = k ∧ b = j then v else g_I σ a b := rfl
theorem g_I_sR (σ : am_St) (k j : Nat) (v : Option Nat) (a b : Nat) : g_I (am_sR σ k j v) a b = g_I σ a b := rfl
theorem g_R_sI (σ : am_St) (k j : Nat) (v : Int32) (a b : Nat) : g_R (am_sI σ k j v) a b = g_R σ a b := rfl
theorem g_R_sR (σ : am_St) (k j : Nat) (v : Option Nat) (a b : Nat) : g_R (am_sR σ k j v) a b = if a = k ∧ b = j then v else g_R σ a b := rfl
theorem g_I_cp (σ : am_St) (s0 sp d0 dp n : Nat) (a b : Nat) : g_I (am_cp σ s0 sp d0 dp n) a b = if a = d0 ∧ dp ≤ b ∧ b < dp + n then g_I σ s0 (sp + (b - dp)) else g_I σ a b := rfl
theorem g_R_cp (σ : am_St) (s0 sp d0 dp n : Nat) (a b : Nat) : g_R (am_cp σ s0 sp d0 dp n) a b = g_R σ a b := rfl
theorem g_o_sI (σ : am_St) (k j : Nat) (v : Int32) (a c : Nat) : g_o (am_sI σ k j v) a c ↔ g_o σ a c := Iff.rfl
theorem g_o_sR (σ : am_St) (k j : Nat) (v : Option Nat) (a c : Nat) : g_o (am_sR σ k j v) a c ↔ g_o σ a c := Iff.rfl
theorem g_o_cp (σ : am_St) (s0 sp d0 dp n : Nat) (a c : Nat) : g_o (am_cp σ s0 sp d0 dp n) a c ↔ g_o σ a c := Iff.rfl
theorem g_a_sI (σ : am_St) (k j : Nat) (v : Int32) (a c : Nat) : g_a (am_sI σ k j v) a c ↔ g_a σ a c := Iff.rfl
theorem g_a_sR (σ : am_St) (k j : Nat) (v : Option Nat) (a c : Nat) : g_a (am_sR σ k j v) a c ↔ g_a σ a c := Iff.rfl
theorem g_a_cp (σ : am_St) (s0 sp d0 dp n : Nat) (a c : Nat) : g_a (am_cp σ s0 sp d0 dp n) a c ↔ g_a σ a c := Iff.rfl
theorem g_b_sI (σ : am_St) (k j : Nat) (v : Int32) (a c : Nat) : g_b (am_sI σ k j v) a c ↔ g_b σ a c := Iff.rfl
theorem g_b_sR (σ : am_St) (k j : Nat) (v : Option Nat) (a c : Nat) : g_b (am_sR σ k j v) a c ↔ g_b σ a c := Iff.rfl
theorem g_q_sI (σ : am_St) (k j : Nat) (v : Int32) (a c : Nat) : g_q (am_sI σ k j v) a c ↔ g_q σ a c := Iff.rfl
theorem g_q_sR (σ : am_St) (k j : Nat) (v : Option Nat) (a c : Nat) : g_q (am_sR σ k j v) a c ↔ g_q σ a c := Iff.rfl
theorem g_b_cp (σ : am_St) (s0 sp d0 dp n : Nat) (a c : Nat) : g_b (am_cp σ s0 sp d0 dp n) a c ↔ g_b σ a c := Iff.rfl
theorem g_q_cp (σ : am_St) (s0 sp d0 dp n : Nat) (a c : Nat) : g_q (am_cp σ s0 sp d0 dp n) a c ↔ g_q σ a c := Iff.rfl
theorem va_rf_s (q : Nat) : va_rf (some q) = .ref q := rfl
theorem va_rf_n : va_rf none = .null := rfl
/-- on with what a call gave -/
def am_k (x : Option (Option Value × am_St)) (f : Option Value → am_St → Option (Option Value × am_St)) : Option (Option Value × am_St) := match x with
  | some (r, σ1) => f r σ1
  | none => none
theorem am_k_s (r : Option Value) (σ1 : am_St) (f : Option Value → am_St → Option (Option Value × am_St)) : am_k (some (r, σ1)) f = f r σ1 := rfl
section RUL
variable {call : am_I → List Value → am_St → Option (Option Value × am_St)} {mi : am_I} {pc : Nat} {L : am_L} {S : List Value} {σ : am_St}
theorem r_nx {pc' : Nat} {L' : am_L} {S' : List Value} {σ' : am_St} {ins : Instr} {len : Nat} (hd : decode mi.2.2.1 pc = .ok (ins, len)) (h : am_ins call mi ins len pc L S σ = am_nx pc' L' S' σ') : am_lim call mi pc L S σ = am_lim call mi pc' L' S' σ' := by
  rw [am_lim_step, am_step, hd]
  dsimp only
  rw [h]
  rfl
theorem r_ret {x : Option Value × am_St} {ins : Instr} {len : Nat} (hd : decode mi.2.2.1 pc = .ok (ins, len)) (h : am_ins call mi ins len pc L S σ = some (.inr x)) : am_lim call mi pc L S σ = some x := by
  rw [am_lim_step, am_step, hd]
  dsimp only
  rw [h]
theorem r_if {c : ClassFile.Cond} {off : Int} {x : Int32} (t : Nat) (hd : decode mi.2.2.1 pc = .ok (.ifCond c off, 3)) (ht : (pc : Int) + off = (t : Int)) : am_lim call mi pc L (.int x :: S) σ = if am_cmp c x 0 = true then am_lim call mi t L S σ else am_lim call mi (pc + 3) L S σ := by
  rw [am_lim_step, am_step, hd]
  show (match (if 3 = 3 then (if am_cmp c x 0 then am_jp pc off L S σ else if 0 ≤ (pc : Int) + off then am_nx (pc + 3) L S σ else none) else none) with
    | none => none
    | some (.inr x) => some x
    | some (.inl (pc', L', S', σ')) => am_lim call mi pc' L' S' σ') = _
  have h0 : 0 ≤ (pc : Int) + off := by omega
  have h1 : ((pc : Int) + off).toNat = t := by omega
  rw [if_pos rfl, if_pos h0]
  unfold am_jp
  rw [if_pos h0, h1]
  split
  · rename_i h; split at h <;> cases h
  · rename_i h; split at h <;> cases h
  · rename_i h; split at h <;> (cases h; simp_all)
theorem r_icmp {c : ClassFile.Cond} {off : Int} {x y : Int32} (t : Nat) (hd : decode mi.2.2.1 pc = .ok (.if_icmp c off, 3)) (ht : (pc : Int) + off = (t : Int)) : am_lim call mi pc L (.int y :: .int x :: S) σ = if am_cmp c x y = true then am_lim call mi t L S σ else am_lim call mi (pc + 3) L S σ := by
  rw [am_lim_step, am_step, hd]
  show (match (if 3 = 3 then (if am_cmp c x y then am_jp pc off L S σ else if 0 ≤ (pc : Int) + off then am_nx (pc + 3) L S σ else none) else none) with
    | none => none
    | some (.inr x) => some x
    | some (.inl (pc', L', S', σ')) => am_lim call mi pc' L' S' σ') = _
  have h0 : 0 ≤ (pc : Int) + off := by omega
  have h1 : ((pc : Int) + off).toNat = t := by omega
  rw [if_pos rfl, if_pos h0]
  unfold am_jp
  rw [if_pos h0, h1]
  split
  · rename_i h; split at h <;> cases h
  · rename_i h; split at h <;> cases h
  · rename_i h; split at h <;> (cases h; simp_all)
theorem r_goto {off : Int} (t : Nat) (hd : decode mi.2.2.1 pc = .ok (.goto off, 3)) (ht : (pc : Int) + off = (t : Int)) : am_lim call mi pc L S σ = am_lim call mi t L S σ := by
  have h0 : 0 ≤ (pc : Int) + off := by omega
  have h1 : ((pc : Int) + off).toNat = t := by omega
  refine r_nx hd ?_
  show am_jp pc off L S σ = _
  unfold am_jp
  rw [if_pos h0, h1]
  rfl
theorem r_ifnullN {off : Int} (t : Nat) (hd : decode mi.2.2.1 pc = .ok (.ifnull off, 3)) (ht : (pc : Int) + off = (t : Int)) : am_lim call mi pc L (.null :: S) σ = am_lim call mi t L S σ := by
  have h0 : 0 ≤ (pc : Int) + off := by omega
  have h1 : ((pc : Int) + off).toNat = t := by omega
  refine r_nx hd ?_
  show am_jp pc off L S σ = _
  unfold am_jp
  rw [if_pos h0, h1]
  rfl
theorem r_getI {idx ci j k : Nat} (hd : decode mi.2.2.1 pc = .ok (.getfield idx, 3)) (hf : am_fld mi.1 idx = some (ci, j)) (ht : am_isR (am_ty ci j) = false) (hk : g_o σ k ci) : am_lim call mi pc L (.ref k :: S) σ = am_lim call mi (pc + 3) L (.int (g_I σ k j) :: S) σ := by
  refine r_nx hd ?_
  show am_get mi idx pc L (.ref k :: S) σ = _
  unfold am_get
  have hk' : k < σ.1 ∧ (σ.2.2.1 k).1 = ci + 4 := hk
  simp only [hf, ht]
  rw [if_pos hk']
  rfl
theorem r_getR {idx ci j k : Nat} (hd : decode mi.2.2.1 pc = .ok (.getfield idx, 3)) (hf : am_fld mi.1 idx = some (ci, j)) (ht : am_isR (am_ty ci j) = true) (hk : g_o σ k ci) : am_lim call mi pc L (.ref k :: S) σ = am_lim call mi (pc + 3) L (va_rf (g_R σ k j) :: S) σ := by
  refine r_nx hd ?_
  show am_get mi idx pc L (.ref k :: S) σ = _
  unfold am_get
  have hk' : k < σ.1 ∧ (σ.2.2.1 k).1 = ci + 4 := hk
  simp only [hf, ht]
  rw [if_pos hk']
  rfl
theorem r_putI {idx ci j k : Nat} {x : Int32} (hd : decode mi.2.2.1 pc = .ok (.putfield idx, 3)) (hf : am_fld mi.1 idx = some (ci, j)) (ht : am_ty ci j = .int) (hfin : am_fin mi ci j = true) (hk : g_o σ k ci) : am_lim call mi pc L (.int x :: .ref k :: S) σ = am_lim call mi (pc + 3) L S (am_sI σ k j x) := by
  refine r_nx hd ?_
  show am_put mi idx pc L (.int x :: .ref k :: S) σ = _
  unfold am_put
  simp only [hf]
  rw [if_pos ⟨hk.1, hk.2, hfin, by rw [ht]; rfl, by rw [ht]; rfl, by rw [ht]; rfl⟩]
theorem r_putZ {idx ci j k : Nat} {x : Int32} (hd : decode mi.2.2.1 pc = .ok (.putfield idx, 3)) (hf : am_fld mi.1 idx = some (ci, j)) (ht : am_ty ci j = .boolean) (hfin : am_fin mi ci j = true) (hk : g_o σ k ci) (hx : x = 0 ∨ x = 1) : am_lim call mi pc L (.int x :: .ref k :: S) σ = am_lim call mi (pc + 3) L S (am_sI σ k j x) := by
  refine r_nx hd ?_
  show am_put mi idx pc L (.int x :: .ref k :: S) σ = _
  unfold am_put
  simp only [hf]
  rw [if_pos ⟨hk.1, hk.2, hfin, by rw [ht]; rfl, by rw [ht]; rcases hx with rfl | rfl <;> rfl, by rw [ht]; rcases hx with rfl | rfl <;> rfl⟩]
theorem r_putR {idx ci j k q : Nat} (hd : decode mi.2.2.1 pc = .ok (.putfield idx, 3)) (hf : am_fld mi.1 idx = some (ci, j)) (ht : am_isR (am_ty ci j) = true) (hfin : am_fin mi ci j = true) (hk : g_o σ k ci) : am_lim call mi pc L (.ref q :: .ref k :: S) σ = am_lim call mi (pc + 3) L S (am_sR σ k j (some q)) := by
  refine r_nx hd ?_
  show am_put mi idx pc L (.ref q :: .ref k :: S) σ = _
  unfold am_put
  simp only [hf]
  rw [if_pos ⟨hk.1, hk.2, hfin, ht⟩]
theorem r_putN {idx ci j k : Nat} (hd : decode mi.2.2.1 pc = .ok (.putfield idx, 3)) (hf : am_fld mi.1 idx = some (ci, j)) (ht : am_isR (am_ty ci j) = true) (hfin : am_fin mi ci j = true) (hk : g_o σ k ci) : am_lim call mi pc L (.null :: .ref k :: S) σ = am_lim call mi (pc + 3) L S (am_sR σ k j none) := by
  refine r_nx hd ?_
  show am_put mi idx pc L (.null :: .ref k :: S) σ = _
  unfold am_put
  simp only [hf]
  rw [if_pos ⟨hk.1, hk.2, hfin, ht⟩]
theorem r_iald {k n : Nat} {i : Int32} (hd : decode mi.2.2.1 pc = .ok (.iaload, 1)) (hk : g_a σ k n) (hi : am_in i n) : am_lim call mi pc L (.int i :: .ref k :: S) σ = am_lim call mi (pc + 1) L (.int (g_I σ k i.toNatClampNeg) :: S) σ := by
  refine r_nx hd ?_
  show am_arr .iaload pc L (.int i :: .ref k :: S) σ = _
  unfold am_arr
  dsimp only
  rw [if_pos ⟨hk.1, by rw [hk.2], by rw [hk.2]; exact hi⟩]
  rfl
theorem r_bald {k n : Nat} {i : Int32} (hd : decode mi.2.2.1 pc = .ok (.baload, 1)) (hk : g_b σ k n) (hi : am_in i n) : am_lim call mi pc L (.int i :: .ref k :: S) σ = am_lim call mi (pc + 1) L (.int (g_I σ k i.toNatClampNeg) :: S) σ := by
  refine r_nx hd ?_
  show am_arr .baload pc L (.int i :: .ref k :: S) σ = _
  unfold am_arr
  dsimp only
  rw [if_pos ⟨hk.1, by rw [hk.2], by rw [hk.2]; exact hi⟩]
  rfl
theorem r_aald {k n : Nat} {i : Int32} (hd : decode mi.2.2.1 pc = .ok (.aaload, 1)) (hk : g_q σ k n) (hi : am_in i n) : am_lim call mi pc L (.int i :: .ref k :: S) σ = am_lim call mi (pc + 1) L (va_rf (g_R σ k i.toNatClampNeg) :: S) σ := by
  refine r_nx hd ?_
  show am_arr .aaload pc L (.int i :: .ref k :: S) σ = _
  unfold am_arr
  dsimp only
  have h2 : (σ.2.2.1 k).2 = n := by rcases hk.2 with q | q <;> rw [q]
  rw [if_pos ⟨hk.1, hk.2.elim (fun q => Or.inl (by rw [q])) (fun q => Or.inr (by rw [q])), by rw [h2]; exact hi⟩]
  rfl
theorem r_iast {k n : Nat} {i x : Int32} (hd : decode mi.2.2.1 pc = .ok (.iastore, 1)) (hk : g_a σ k n) (hi : am_in i n) : am_lim call mi pc L (.int x :: .int i :: .ref k :: S) σ = am_lim call mi (pc + 1) L S (am_sI σ k i.toNatClampNeg x) := by
  refine r_nx hd ?_
  show am_arr .iastore pc L (.int x :: .int i :: .ref k :: S) σ = _
  unfold am_arr
  dsimp only
  rw [if_pos ⟨hk.1, by rw [hk.2], by rw [hk.2]; exact hi⟩]
theorem r_bast {k n : Nat} {i x : Int32} (hd : decode mi.2.2.1 pc = .ok (.bastore, 1)) (hk : g_b σ k n) (hi : am_in i n) : am_lim call mi pc L (.int x :: .int i :: .ref k :: S) σ = am_lim call mi (pc + 1) L S (am_sI σ k i.toNatClampNeg (vp_nar .byte x)) := by
  refine r_nx hd ?_
  show am_arr .bastore pc L (.int x :: .int i :: .ref k :: S) σ = _
  unfold am_arr
  dsimp only
  rw [if_pos ⟨hk.1, by rw [hk.2], by rw [hk.2]; exact hi⟩]
theorem r_alen {k n : Nat} (hd : decode mi.2.2.1 pc = .ok (.arraylength, 1)) (hk : g_a σ k n) : am_lim call mi pc L (.ref k :: S) σ = am_lim call mi (pc + 1) L (.int (Int32.ofNat n) :: S) σ := by
  refine r_nx hd ?_
  show am_arr .arraylength pc L (.ref k :: S) σ = _
  unfold am_arr
  dsimp only
  rw [if_pos ⟨hk.1, by rw [hk.2]; exact (by decide : 0 < 4)⟩, hk.2]
theorem r_callV {idx b n : Nat} {m2 : am_I} {S1 rest : List Value} {r : Option Value} {σ1 : am_St} (hd : decode mi.2.2.1 pc = .ok (.invokevirtual idx, 3)) (hm : am_mth mi.1 idx 0 = some m2) (hn : S1.length = m2.2.2.2.2.2.1) (hk : g_o σ b m2.1) (hc : (rest.map fun v => v.category).sum ≤ 8) (hr : call m2 (.ref b :: S1.reverse) σ = some (r, σ1)) : am_lim call mi pc L (S1 ++ .ref b :: rest) σ = am_lim call mi (pc + 3) L (r.toList ++ rest) σ1 := by
  refine r_nx hd ?_
  show am_inv call mi 0 idx pc L (S1 ++ .ref b :: rest) σ = _
  unfold am_inv
  simp only [hm]
  rw [← hn, List.drop_left, List.take_left]
  dsimp only
  have hk' : b < σ.1 ∧ (σ.2.2.1 b).1 = m2.1 + 4 := hk
  rw [if_pos hk']
  unfold am_calls
  rw [if_pos hc, hr]
theorem r_callS {idx n : Nat} {m2 : am_I} {S1 rest : List Value} {r : Option Value} {σ1 : am_St} (hd : decode mi.2.2.1 pc = .ok (.invokestatic idx, 3)) (h1 : am_isC mi.1 idx = false ∧ am_isX mi.1 idx = false ∧ am_isM mi.1 idx = false) (hm : am_mth mi.1 idx 1 = some m2) (hn : S1.length = m2.2.2.2.2.2.1) (hc : (rest.map fun v => v.category).sum ≤ 8) (hr : call m2 S1.reverse σ = some (r, σ1)) : am_lim call mi pc L (S1 ++ rest) σ = am_lim call mi (pc + 3) L (r.toList ++ rest) σ1 := by
  refine r_nx hd ?_
  show am_inv call mi 1 idx pc L (S1 ++ rest) σ = _
  unfold am_inv
  simp only [hm, h1.1, h1.2.1, h1.2.2]
  rw [← hn, List.drop_left, List.take_left]
  simp only [Bool.false_eq_true, if_false]
  rw [if_pos (by rw [List.length_append]; omega)]
  unfold am_calls
  rw [if_pos hc, hr]
theorem r_kV {idx b : Nat} {m2 : am_I} {S1 rest : List Value} (hd : decode mi.2.2.1 pc = .ok (.invokevirtual idx, 3)) (hm : am_mth mi.1 idx 0 = some m2) (hn : S1.length = m2.2.2.2.2.2.1) (hk : g_o σ b m2.1) (hc : (rest.map fun v => v.category).sum ≤ 8) : am_lim call mi pc L (S1 ++ .ref b :: rest) σ = am_k (call m2 (.ref b :: S1.reverse) σ) (fun r σ1 => am_lim call mi (pc + 3) L (r.toList ++ rest) σ1) := by
  cases hr : call m2 (.ref b :: S1.reverse) σ with
  | some q => exact r_callV (r := q.1) (σ1 := q.2) (n := 0) hd hm hn hk hc hr
  | none =>
    rw [am_lim_step, am_step, hd]
    show (match am_inv call mi 0 idx pc L (S1 ++ .ref b :: rest) σ with
      | none => none
      | some (.inr x) => some x
      | some (.inl (pc', L', S', σ')) => am_lim call mi pc' L' S' σ') = none
    unfold am_inv
    simp only [hm]
    rw [← hn, List.drop_left, List.take_left]
    dsimp only
    have hk' : b < σ.1 ∧ (σ.2.2.1 b).1 = m2.1 + 4 := hk
    rw [if_pos hk']
    unfold am_calls
    rw [if_pos hc, hr]
theorem r_kS {idx : Nat} {m2 : am_I} {S1 rest : List Value} (hd : decode mi.2.2.1 pc = .ok (.invokestatic idx, 3)) (h1 : am_isC mi.1 idx = false ∧ am_isX mi.1 idx = false ∧ am_isM mi.1 idx = false) (hm : am_mth mi.1 idx 1 = some m2) (hn : S1.length = m2.2.2.2.2.2.1) (hc : (rest.map fun v => v.category).sum ≤ 8) : am_lim call mi pc L (S1 ++ rest) σ = am_k (call m2 S1.reverse σ) (fun r σ1 => am_lim call mi (pc + 3) L (r.toList ++ rest) σ1) := by
  cases hr : call m2 S1.reverse σ with
  | some q => exact r_callS (r := q.1) (σ1 := q.2) (n := 0) hd h1 hm hn hc hr
  | none =>
    rw [am_lim_step, am_step, hd]
    show (match am_inv call mi 1 idx pc L (S1 ++ rest) σ with
      | none => none
      | some (.inr x) => some x
      | some (.inl (pc', L', S', σ')) => am_lim call mi pc' L' S' σ') = none
    unfold am_inv
    simp only [hm, h1.1, h1.2.1, h1.2.2]
    rw [← hn, List.drop_left, List.take_left]
    simp only [Bool.false_eq_true, if_false]
    rw [if_pos (by rw [List.length_append]; omega)]
    unfold am_calls
    rw [if_pos hc, hr]
theorem r_retI {x : Int32} (hd : decode mi.2.2.1 pc = .ok (.ireturn, 1)) (hr : mi.2.2.2.2.1 = some .int) : am_lim call mi pc L [.int x] σ = some (some (.int x), σ) := by
  refine r_ret hd ?_
  show am_ret mi .ireturn [.int x] σ = _
  unfold am_ret
  rw [hr]
  exact if_pos rfl
theorem r_retZ {x : Int32} (hd : decode mi.2.2.1 pc = .ok (.ireturn, 1)) (hr : mi.2.2.2.2.1 = some .boolean) (hx : x = 0 ∨ x = 1) : am_lim call mi pc L [.int x] σ = some (some (.int x), σ) := by
  refine r_ret hd ?_
  show am_ret mi .ireturn [.int x] σ = _
  unfold am_ret
  rw [hr]
  rcases hx with rfl | rfl <;> rfl
theorem r_copy {idx a b n m : Nat} {x y w : Int32} {rest : List Value} (hd : decode mi.2.2.1 pc = .ok (.invokestatic idx, 3)) (hC : am_isC mi.1 idx = true) (h1 : g_a σ a n) (h2 : g_a σ b m) (h3 : ¬ x < 0) (h4 : ¬ y < 0) (h5 : ¬ w < 0) (h6 : x.toNatClampNeg + w.toNatClampNeg ≤ n) (h7 : y.toNatClampNeg + w.toNatClampNeg ≤ m) (hc : (rest.map fun v => v.category).sum ≤ 8) : am_lim call mi pc L (.int w :: .int y :: .ref b :: .int x :: .ref a :: rest) σ = am_lim call mi (pc + 3) L rest (am_cp σ a x.toNatClampNeg b y.toNatClampNeg w.toNatClampNeg) := by
  refine r_nx hd ?_
  show am_inv call mi 1 idx pc L _ σ = _
  unfold am_inv
  simp only [hC, if_true]
  unfold am_copy
  rw [if_pos ⟨h1.1, h2.1, by rw [h1.2], by rw [h2.2], h3, h4, h5, by rw [h1.2]; exact h6, by rw [h2.2]; exact h7, hc⟩]
theorem r_tsD {df lo hi : Int} {offs : Array Int} {len : Nat} {x : Int32} (t : Nat) (hd : decode mi.2.2.1 pc = .ok (.tableswitch df lo hi offs, len)) (h : x.toInt < lo ∨ hi < x.toInt) (ht : (pc : Int) + df = (t : Int)) : am_lim call mi pc L (.int x :: S) σ = am_lim call mi t L S σ := by
  have h0 : 0 ≤ (pc : Int) + df := by omega
  have h1 : ((pc : Int) + df).toNat = t := by omega
  refine r_nx hd ?_
  show am_bra (.tableswitch df lo hi offs) pc L (.int x :: S) σ = _
  unfold am_bra
  dsimp only
  rw [if_pos h]
  unfold am_jp
  rw [if_pos h0, h1]
  rfl
theorem r_lkD {df : Int} {ps : Array (Int × Int)} {len : Nat} {x : Int32} (t : Nat) (hd : decode mi.2.2.1 pc = .ok (.lookupswitch df ps, len)) (hs : (ps.toList.zip (ps.toList.drop 1)).all (fun (a, next) => a.1 < next.1) = true) (h : Op.lookupswitch.offset ps.toList df x.toInt = df) (ht : (pc : Int) + df = (t : Int)) : am_lim call mi pc L (.int x :: S) σ = am_lim call mi t L S σ := by
  have h0 : 0 ≤ (pc : Int) + df := by omega
  have h1 : ((pc : Int) + df).toNat = t := by omega
  refine r_nx hd ?_
  show am_bra (.lookupswitch df ps) pc L (.int x :: S) σ = _
  unfold am_bra
  dsimp only
  rw [if_pos hs, h]
  unfold am_jp
  rw [if_pos h0, h1]
  rfl
end RUL
section RUL2
variable {call : am_I → List Value → am_St → Option (Option Value × am_St)} {mi : am_I} {pc : Nat} {L L' : am_L} {S : List Value} {σ : am_St} {x y v : Int32} {a b i : Nat} {z z2 : Int64}
theorem r_iconst {n : Int} (hd : decode mi.2.2.1 pc = .ok (.iconst n, 1)) (hv : Int32.ofInt n = v) : am_lim call mi pc L S σ = am_lim call mi (pc + 1) L (.int v :: S) σ := by subst hv; exact r_nx hd rfl
theorem r_bipush {n : Int} (hd : decode mi.2.2.1 pc = .ok (.bipush n, 2)) (hv : (Int8.ofInt n).toInt32 = v) : am_lim call mi pc L S σ = am_lim call mi (pc + 2) L (.int v :: S) σ := by subst hv; exact r_nx hd rfl
theorem r_sipush {n : Int} (hd : decode mi.2.2.1 pc = .ok (.sipush n, 3)) (hv : (Int16.ofInt n).toInt32 = v) : am_lim call mi pc L S σ = am_lim call mi (pc + 3) L (.int v :: S) σ := by subst hv; exact r_nx hd rfl
theorem r_lconst {n : Fin 2} (hd : decode mi.2.2.1 pc = .ok (.lconst n, 1)) (hv : Int64.ofNat (n : Nat) = z) : am_lim call mi pc L S σ = am_lim call mi (pc + 1) L (.long z :: S) σ := by subst hv; exact r_nx hd rfl
theorem r_ldc (hd : decode mi.2.2.1 pc = .ok (.ldc i, 2)) (hv : am_co mi.1 i = some v) : am_lim call mi pc L S σ = am_lim call mi (pc + 2) L (.int v :: S) σ := r_nx hd (by show (match am_co mi.1 i with | some v => am_nx (pc + 2) L (.int v :: S) σ | none => none) = _; rw [hv])
theorem r_ldcw (hd : decode mi.2.2.1 pc = .ok (.ldc_w i, 3)) (hv : am_co mi.1 i = some v) : am_lim call mi pc L S σ = am_lim call mi (pc + 3) L (.int v :: S) σ := r_nx hd (by show (match am_co mi.1 i with | some v => am_nx (pc + 3) L (.int v :: S) σ | none => none) = _; rw [hv])
theorem r_ldc2 (hd : decode mi.2.2.1 pc = .ok (.ldc2_w i, 3)) (hv : am_cj mi.1 i = some z) : am_lim call mi pc L S σ = am_lim call mi (pc + 3) L (.long z :: S) σ := r_nx hd (by show (match am_cj mi.1 i with | some v => am_nx (pc + 3) L (.long v :: S) σ | none => none) = _; rw [hv])
theorem r_iload_n {k : Fin 4} (hd : decode mi.2.2.1 pc = .ok (.iload_n k, 1)) (hl : am_ld L k = .int x) : am_lim call mi pc L S σ = am_lim call mi (pc + 1) L (.int x :: S) σ := r_nx hd (by show am_lds 0 1 pc k L S σ = _; unfold am_lds; rw [hl]; rfl)
theorem r_iload (hd : decode mi.2.2.1 pc = .ok (.iload i, 2)) (hl : am_ld L i = .int x) : am_lim call mi pc L S σ = am_lim call mi (pc + 2) L (.int x :: S) σ := r_nx hd (by show am_lds 0 2 pc i L S σ = _; unfold am_lds; rw [hl]; rfl)
theorem r_lload_n {k : Fin 4} (hd : decode mi.2.2.1 pc = .ok (.lload_n k, 1)) (hl : am_ld L k = .long z) : am_lim call mi pc L S σ = am_lim call mi (pc + 1) L (.long z :: S) σ := r_nx hd (by show am_lds 1 1 pc k L S σ = _; unfold am_lds; rw [hl]; rfl)
theorem r_lload (hd : decode mi.2.2.1 pc = .ok (.lload i, 2)) (hl : am_ld L i = .long z) : am_lim call mi pc L S σ = am_lim call mi (pc + 2) L (.long z :: S) σ := r_nx hd (by show am_lds 1 2 pc i L S σ = _; unfold am_lds; rw [hl]; rfl)
theorem r_aload_n {k : Fin 4} (hd : decode mi.2.2.1 pc = .ok (.aload_n k, 1)) (hl : am_ld L k = .ref a) : am_lim call mi pc L S σ = am_lim call mi (pc + 1) L (.ref a :: S) σ := r_nx hd (by show am_lds 2 1 pc k L S σ = _; unfold am_lds; rw [hl]; rfl)
theorem r_aload (hd : decode mi.2.2.1 pc = .ok (.aload i, 2)) (hl : am_ld L i = .ref a) : am_lim call mi pc L S σ = am_lim call mi (pc + 2) L (.ref a :: S) σ := r_nx hd (by show am_lds 2 2 pc i L S σ = _; unfold am_lds; rw [hl]; rfl)
theorem r_stp {pc' : Nat} {v : Value} (h1 : mi.2.2.2.2.2.2 = false) (h2 : Nat.ble (i + 1) mi.2.2.2.1 = true) (h3 : Nat.ble (i + 1) L.length = true) (hL : L.set i (some v) = L') : am_stp mi pc' i L v S σ = am_nx pc' L' S σ := by
  unfold am_stp
  rw [if_pos ⟨h1, Nat.le_of_ble_eq_true h2, Nat.le_of_ble_eq_true h3⟩, hL]
theorem r_istore_n {k : Fin 4} (hd : decode mi.2.2.1 pc = .ok (.istore_n k, 1)) (h1 : mi.2.2.2.2.2.2 = false) (h2 : Nat.ble ((k : Nat) + 1) mi.2.2.2.1 = true) (h3 : Nat.ble ((k : Nat) + 1) L.length = true) (hL : L.set k (some (.int x)) = L') : am_lim call mi pc L (.int x :: S) σ = am_lim call mi (pc + 1) L' S σ := r_nx hd (r_stp h1 h2 h3 hL)
theorem r_istore (hd : decode mi.2.2.1 pc = .ok (.istore i, 2)) (h1 : mi.2.2.2.2.2.2 = false) (h2 : Nat.ble (i + 1) mi.2.2.2.1 = true) (h3 : Nat.ble (i + 1) L.length = true) (hL : L.set i (some (.int x)) = L') : am_lim call mi pc L (.int x :: S) σ = am_lim call mi (pc + 2) L' S σ := r_nx hd (r_stp h1 h2 h3 hL)
theorem r_astore_n {k : Fin 4} (hd : decode mi.2.2.1 pc = .ok (.astore_n k, 1)) (h1 : mi.2.2.2.2.2.2 = false) (h2 : Nat.ble ((k : Nat) + 1) mi.2.2.2.1 = true) (h3 : Nat.ble ((k : Nat) + 1) L.length = true) (hL : L.set k (some (.ref a)) = L') : am_lim call mi pc L (.ref a :: S) σ = am_lim call mi (pc + 1) L' S σ := r_nx hd (r_stp h1 h2 h3 hL)
theorem r_astore (hd : decode mi.2.2.1 pc = .ok (.astore i, 2)) (h1 : mi.2.2.2.2.2.2 = false) (h2 : Nat.ble (i + 1) mi.2.2.2.1 = true) (h3 : Nat.ble (i + 1) L.length = true) (hL : L.set i (some (.ref a)) = L') : am_lim call mi pc L (.ref a :: S) σ = am_lim call mi (pc + 2) L' S σ := r_nx hd (r_stp h1 h2 h3 hL)
theorem r_iinc {n : Int} (hd : decode mi.2.2.1 pc = .ok (.iinc i n, 3)) (hl : am_ld L i = .int x) (hv : Int32.ofInt n = v) (h1 : mi.2.2.2.2.2.2 = false) (h2 : Nat.ble (i + 1) mi.2.2.2.1 = true) (h3 : Nat.ble (i + 1) L.length = true) (hL : L.set i (some (.int (x + v))) = L') : am_lim call mi pc L S σ = am_lim call mi (pc + 3) L' S σ := by
  subst hv
  exact r_nx hd (by show (match am_ld L i with | .int x => am_stp mi (pc + 3) i L (.int (x + Int32.ofInt n)) S σ | _ => none) = _; rw [hl]; exact r_stp h1 h2 h3 hL)
theorem r_iadd (hd : decode mi.2.2.1 pc = .ok (.iadd, 1)) : am_lim call mi pc L (.int y :: .int x :: S) σ = am_lim call mi (pc + 1) L (.int (x + y) :: S) σ := r_nx hd rfl
theorem r_isub (hd : decode mi.2.2.1 pc = .ok (.isub, 1)) : am_lim call mi pc L (.int y :: .int x :: S) σ = am_lim call mi (pc + 1) L (.int (x - y) :: S) σ := r_nx hd rfl
theorem r_imul (hd : decode mi.2.2.1 pc = .ok (.imul, 1)) : am_lim call mi pc L (.int y :: .int x :: S) σ = am_lim call mi (pc + 1) L (.int (x * y) :: S) σ := r_nx hd rfl
theorem r_iand (hd : decode mi.2.2.1 pc = .ok (.iand, 1)) : am_lim call mi pc L (.int y :: .int x :: S) σ = am_lim call mi (pc + 1) L (.int (x &&& y) :: S) σ := r_nx hd rfl
theorem r_ishr (hd : decode mi.2.2.1 pc = .ok (.ishr, 1)) : am_lim call mi pc L (.int y :: .int x :: S) σ = am_lim call mi (pc + 1) L (.int (x >>> (y &&& 31)) :: S) σ := r_nx hd rfl
theorem r_idiv (hd : decode mi.2.2.1 pc = .ok (.idiv, 1)) (h : ¬ y = 0) : am_lim call mi pc L (.int y :: .int x :: S) σ = am_lim call mi (pc + 1) L (.int (x / y) :: S) σ := r_nx hd (if_neg h)
theorem r_irem (hd : decode mi.2.2.1 pc = .ok (.irem, 1)) (h : ¬ y = 0) : am_lim call mi pc L (.int y :: .int x :: S) σ = am_lim call mi (pc + 1) L (.int (x - x / y * y) :: S) σ := r_nx hd (if_neg h)
theorem r_i2l (hd : decode mi.2.2.1 pc = .ok (.i2l, 1)) : am_lim call mi pc L (.int x :: S) σ = am_lim call mi (pc + 1) L (.long x.toInt64 :: S) σ := r_nx hd rfl
theorem r_i2b (hd : decode mi.2.2.1 pc = .ok (.i2b, 1)) : am_lim call mi pc L (.int x :: S) σ = am_lim call mi (pc + 1) L (.int x.toInt8.toInt32 :: S) σ := r_nx hd rfl
theorem r_lcmp (hd : decode mi.2.2.1 pc = .ok (.lcmp, 1)) : am_lim call mi pc L (.long z2 :: .long z :: S) σ = am_lim call mi (pc + 1) L (.int (lg_cmp z z2) :: S) σ := r_nx hd rfl
theorem r_dupI (hd : decode mi.2.2.1 pc = .ok (.dup, 1)) : am_lim call mi pc L (.int x :: S) σ = am_lim call mi (pc + 1) L (.int x :: .int x :: S) σ := r_nx hd rfl
theorem r_dupA (hd : decode mi.2.2.1 pc = .ok (.dup, 1)) : am_lim call mi pc L (.ref a :: S) σ = am_lim call mi (pc + 1) L (.ref a :: .ref a :: S) σ := r_nx hd rfl
theorem r_popI (hd : decode mi.2.2.1 pc = .ok (.pop, 1)) : am_lim call mi pc L (.int x :: S) σ = am_lim call mi (pc + 1) L S σ := r_nx hd rfl
theorem r_popA (hd : decode mi.2.2.1 pc = .ok (.pop, 1)) : am_lim call mi pc L (.ref a :: S) σ = am_lim call mi (pc + 1) L S σ := r_nx hd rfl
theorem r_dup2IA (hd : decode mi.2.2.1 pc = .ok (.dup2, 1)) : am_lim call mi pc L (.int x :: .ref b :: S) σ = am_lim call mi (pc + 1) L (.int x :: .ref b :: .int x :: .ref b :: S) σ := r_nx hd rfl
theorem r_null (hd : decode mi.2.2.1 pc = .ok (.aconst_null, 1)) : am_lim call mi pc L S σ = am_lim call mi (pc + 1) L (.null :: S) σ := r_nx hd rfl
theorem r_ifnullR {off : Int} (hd : decode mi.2.2.1 pc = .ok (.ifnull off, 3)) : am_lim call mi pc L (.ref a :: S) σ = am_lim call mi (pc + 3) L S σ := r_nx hd rfl
theorem r_retV (hd : decode mi.2.2.1 pc = .ok (.return_, 1)) (hr : mi.2.2.2.2.1 = none) : am_lim call mi pc L [] σ = some (none, σ) := by
  refine r_ret hd ?_
  show am_ret mi .return_ [] σ = _
  unfold am_ret
  rw [hr]
theorem r_retA {n : String} (hd : decode mi.2.2.1 pc = .ok (.areturn, 1)) (hr : mi.2.2.2.2.1 = some (.object n)) : am_lim call mi pc L [.ref a] σ = some (some (.ref a), σ) := by
  refine r_ret hd ?_
  show am_ret mi .areturn [.ref a] σ = _
  unfold am_ret
  rw [hr]
theorem r_tsK {df lo hi off : Int} {offs : Array Int} {len : Nat} (t : Nat) (hd : decode mi.2.2.1 pc = .ok (.tableswitch df lo hi offs, len)) (h1 : decide (x.toInt < lo ∨ hi < x.toInt) = false) (ho : offs[(x.toInt - lo).toNat]? = some off) (ht : (pc : Int) + off = (t : Int)) : am_lim call mi pc L (.int x :: S) σ = am_lim call mi t L S σ := by
  have h0 : 0 ≤ (pc : Int) + off := by omega
  have h2 : ((pc : Int) + off).toNat = t := by omega
  refine r_nx hd ?_
  show am_bra (.tableswitch df lo hi offs) pc L (.int x :: S) σ = _
  unfold am_bra
  dsimp only
  rw [if_neg (of_decide_eq_false h1), ho]
  dsimp only
  unfold am_jp
  rw [if_pos h0, h2]
  rfl
theorem r_lkK {df off : Int} {ps : Array (Int × Int)} {len : Nat} (t : Nat) (hd : decode mi.2.2.1 pc = .ok (.lookupswitch df ps, len)) (hs : (ps.toList.zip (ps.toList.drop 1)).all (fun (a, next) => a.1 < next.1) = true) (h : Op.lookupswitch.offset ps.toList df x.toInt = off) (ht : (pc : Int) + off = (t : Int)) : am_lim call mi pc L (.int x :: S) σ = am_lim call mi t L S σ := by
  have h0 : 0 ≤ (pc : Int) + off := by omega
  have h1 : ((pc : Int) + off).toNat = t := by omega
  refine r_nx hd ?_
  show am_bra (.lookupswitch df ps) pc L (.int x :: S) σ = _
  unfold am_bra
  dsimp only
  rw [if_pos hs, h]
  unfold am_jp
  rw [if_pos h0, h1]
  rfl
theorem r_max {idx : Nat} {rest : List Value} (hd : decode mi.2.2.1 pc = .ok (.invokestatic idx, 3)) (h1 : am_isC mi.1 idx = false) (h2 : am_isX mi.1 idx = true) (hc : (rest.map fun v => v.category).sum ≤ 8) : am_lim call mi pc L (.int y :: .int x :: rest) σ = am_lim call mi (pc + 3) L (.int (if x < y then y else x) :: rest) σ := by
  refine r_nx hd ?_
  show am_inv call mi 1 idx pc L _ σ = _
  unfold am_inv
  simp only [h1, h2, if_true, Bool.false_eq_true, if_false]
  rw [if_pos hc]
theorem r_min {idx : Nat} {rest : List Value} (hd : decode mi.2.2.1 pc = .ok (.invokestatic idx, 3)) (h1 : am_isC mi.1 idx = false) (h2 : am_isX mi.1 idx = false) (h3 : am_isM mi.1 idx = true) (hc : (rest.map fun v => v.category).sum ≤ 8) : am_lim call mi pc L (.int y :: .int x :: rest) σ = am_lim call mi (pc + 3) L (.int (if y < x then y else x) :: rest) σ := by
  refine r_nx hd ?_
  show am_inv call mi 1 idx pc L _ σ = _
  unfold am_inv
  simp only [h1, h2, h3, if_true, Bool.false_eq_true, if_false]
  rw [if_pos hc]
theorem r_ifB {c : ClassFile.Cond} {off : Int} {P : Prop} {_ : Decidable P} (t : Nat) (hd : decode mi.2.2.1 pc = .ok (.ifCond c off, 3)) (ht : (pc : Int) + off = (t : Int)) (hP : am_cmp c x 0 = decide P) : am_lim call mi pc L (.int x :: S) σ = if P then am_lim call mi t L S σ else am_lim call mi (pc + 3) L S σ := by
  rw [r_if t hd ht, hP]
  simp only [decide_eq_true_eq]
theorem r_icmpB {c : ClassFile.Cond} {off : Int} {P : Prop} {_ : Decidable P} (t : Nat) (hd : decode mi.2.2.1 pc = .ok (.if_icmp c off, 3)) (ht : (pc : Int) + off = (t : Int)) (hP : am_cmp c x y = decide P) : am_lim call mi pc L (.int y :: .int x :: S) σ = if P then am_lim call mi t L S σ else am_lim call mi (pc + 3) L S σ := by
  rw [r_icmp t hd ht, hP]
  simp only [decide_eq_true_eq]
end RUL2
theorem am_run_S {d : Nat} {mi : am_I} {args : List Value} {σ : am_St} {L : am_L} (h1 : Nat.ble (am_ex args).length mi.2.2.2.1 = true) (h2 : Nat.ble mi.2.2.2.1 20 = true) (h3 : (mi.2.2.2.2.2.2 || args.all (fun v => v.category == 1)) = true) (hL : am_en mi args = L) : am_run (d + 1) mi args σ = am_lim (am_run d) mi 0 L [] σ := by
  rw [am_run, if_pos ⟨Nat.le_of_ble_eq_true h1, Nat.le_of_ble_eq_true h2, by simpa using h3⟩, hL]
