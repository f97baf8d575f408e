/-! ===== one instruction, as an equation of the limit ===== -/
def g_I (σ : am_St) (k j : Nat) : Int32 := σ.2.2.2.1 k j
def g_R (σ : am_St) (k j : Nat) : Option Nat := σ.2.2.2.2 k j
/-- a cell is an object of a class; a row of ints of a length .. -/
def g_o (σ : am_St) (k c : Nat) : Prop := k < σ.1 ∧ (σ.2.2.1 k).1 = c + 4
def g_a (σ : am_St) (k n : Nat) : Prop := k < σ.1 ∧ σ.2.2.1 k = (0, n)
def g_b (σ : am_St) (k n : Nat) : Prop := k < σ.1 ∧ σ.2.2.1 k = (1, n)
def g_q (σ : am_St) (k n : Nat) : Prop := k < σ.1 ∧ (σ.2.2.1 k = (2, n) ∨ σ.2.2.1 k = (3, n))
theorem g_I_sI (σ : am_St) (k j : Nat) (v : Int32) (a b : Nat) : g_I (am_sI σ k j v) a b = if a = k ∧ b = j then v else g_I σ a b := rfl
theorem g_I_sR (σ : am_St) (k j : Nat) (v : Option Nat) (a b : Nat) : g_I (am_sR σ k j v) a b = g_I σ a b := rfl
theorem g_R_sI (σ : am_St) (k j : Nat) (v : Int32) (a b : Nat) : g_R (am_sI σ k j v) a b = g_R σ a b := rfl
theorem g_R_sR (σ : am_St) (k j : Nat) (v : Option Nat) (a b : Nat) : g_R (am_sR σ k j v) a b = if a = k ∧ b = j then v else g_R σ a b := rfl
theorem g_I_cp (σ : am_St) (s0 sp d0 dp n : Nat) (a b : Nat) : g_I (am_cp σ s0 sp d0 dp n) a b = if a = d0 ∧ dp ≤ b ∧ b < dp + n then g_I σ s0 (sp + (b - dp)) else g_I σ a b := rfl
theorem g_R_cp (σ : am_St) (s0 sp d0 dp n : Nat) (a b : Nat) : g_R (am_cp σ s0 sp d0 dp n) a b = g_R σ a b := rfl
theorem g_o_sI (σ : am_St) (k j : Nat) (v : Int32) (a c : Nat) : g_o (am_sI σ k j v) a c = g_o σ a c := rfl
theorem g_o_sR (σ : am_St) (k j : Nat) (v : Option Nat) (a c : Nat) : g_o (am_sR σ k j v) a c = g_o σ a c := rfl
theorem g_o_cp (σ : am_St) (s0 sp d0 dp n : Nat) (a c : Nat) : g_o (am_cp σ s0 sp d0 dp n) a c = g_o σ a c := rfl
theorem g_a_sI (σ : am_St) (k j : Nat) (v : Int32) (a c : Nat) : g_a (am_sI σ k j v) a c = g_a σ a c := rfl
theorem g_a_sR (σ : am_St) (k j : Nat) (v : Option Nat) (a c : Nat) : g_a (am_sR σ k j v) a c = g_a σ a c := rfl
theorem g_a_cp (σ : am_St) (s0 sp d0 dp n : Nat) (a c : Nat) : g_a (am_cp σ s0 sp d0 dp n) a c = g_a σ a c := rfl
theorem g_b_sI (σ : am_St) (k j : Nat) (v : Int32) (a c : Nat) : g_b (am_sI σ k j v) a c = g_b σ a c := rfl
theorem g_b_sR (σ : am_St) (k j : Nat) (v : Option Nat) (a c : Nat) : g_b (am_sR σ k j v) a c = g_b σ a c := rfl
theorem g_q_sI (σ : am_St) (k j : Nat) (v : Int32) (a c : Nat) : g_q (am_sI σ k j v) a c = g_q σ a c := rfl
theorem g_q_sR (σ : am_St) (k j : Nat) (v : Option Nat) (a c : Nat) : g_q (am_sR σ k j v) a c = g_q σ a c := rfl
theorem va_rf_s (q : Nat) : va_rf (some q) = .ref q := rfl
theorem va_rf_n : va_rf none = .null := rfl
section RUL
variable {call : am_I → List Value → am_St → Option (Option Value × am_St)} {mi : am_I} {pc : Nat} {L : am_L} {S : List Value} {σ : am_St}
theorem r_nx {pc' : Nat} {L' : am_L} {S' : List Value} {σ' : am_St} {ins : Instr} {len : Nat} (hd : decode mi.2.2.1 pc = .ok (ins, len)) (h : am_ins call mi ins len pc L S σ = am_nx pc' L' S' σ') : am_lim call mi pc L S σ = am_lim call mi pc' L' S' σ' := by
  rw [am_lim_step, am_step, hd]
  dsimp only
  rw [h]
  rfl
theorem r_ret {x : Option Value × am_St} {ins : Instr} {len : Nat} (hd : decode mi.2.2.1 pc = .ok (ins, len)) (h : am_ins call mi ins len pc L S σ = some (.inr x)) : am_lim call mi pc L S σ = some x := by
  rw [am_lim_step, am_step, hd]
  dsimp only
  rw [h]
theorem r_if {c : ClassFile.Cond} {off : Int} {x : Int32} (t : Nat) (hd : decode mi.2.2.1 pc = .ok (.ifCond c off, 3)) (ht : (pc : Int) + off = (t : Int)) : am_lim call mi pc L (.int x :: S) σ = if am_cmp c x 0 = true then am_lim call mi t L S σ else am_lim call mi (pc + 3) L S σ := by
  rw [am_lim_step, am_step, hd]
  show (match (if 3 = 3 then (if am_cmp c x 0 then am_jp pc off L S σ else if 0 ≤ (pc : Int) + off then am_nx (pc + 3) L S σ else none) else none) with
    | none => none
    | some (.inr x) => some x
    | some (.inl (pc', L', S', σ')) => am_lim call mi pc' L' S' σ') = _
  have h0 : 0 ≤ (pc : Int) + off := by omega
  have h1 : ((pc : Int) + off).toNat = t := by omega
  rw [if_pos rfl, if_pos h0]
  unfold am_jp
  rw [if_pos h0, h1]
  split
  · rename_i h; split at h <;> cases h
  · rename_i h; split at h <;> cases h
  · rename_i h; split at h <;> (cases h; simp_all)
theorem r_icmp {c : ClassFile.Cond} {off : Int} {x y : Int32} (t : Nat) (hd : decode mi.2.2.1 pc = .ok (.if_icmp c off, 3)) (ht : (pc : Int) + off = (t : Int)) : am_lim call mi pc L (.int y :: .int x :: S) σ = if am_cmp c x y = true then am_lim call mi t L S σ else am_lim call mi (pc + 3) L S σ := by
  rw [am_lim_step, am_step, hd]
  show (match (if 3 = 3 then (if am_cmp c x y then am_jp pc off L S σ else if 0 ≤ (pc : Int) + off then am_nx (pc + 3) L S σ else none) else none) with
    | none => none
    | some (.inr x) => some x
    | some (.inl (pc', L', S', σ')) => am_lim call mi pc' L' S' σ') = _
  have h0 : 0 ≤ (pc : Int) + off := by omega
  have h1 : ((pc : Int) + off).toNat = t := by omega
  rw [if_pos rfl, if_pos h0]
  unfold am_jp
  rw [if_pos h0, h1]
  split
  · rename_i h; split at h <;> cases h
  · rename_i h; split at h <;> cases h
  · rename_i h; split at h <;> (cases h; simp_all)
theorem r_goto {off : Int} (t : Nat) (hd : decode mi.2.2.1 pc = .ok (.goto off, 3)) (ht : (pc : Int) + off = (t : Int)) : am_lim call mi pc L S σ = am_lim call mi t L S σ := by
  have h0 : 0 ≤ (pc : Int) + off := by omega
  have h1 : ((pc : Int) + off).toNat = t := by omega
  refine r_nx hd ?_
  show am_jp pc off L S σ = _
  unfold am_jp
  rw [if_pos h0, h1]
  rfl
theorem r_ifnullN {off : Int} (t : Nat) (hd : decode mi.2.2.1 pc = .ok (.ifnull off, 3)) (ht : (pc : Int) + off = (t : Int)) : am_lim call mi pc L (.null :: S) σ = am_lim call mi t L S σ := by
  have h0 : 0 ≤ (pc : Int) + off := by omega
  have h1 : ((pc : Int) + off).toNat = t := by omega
  refine r_nx hd ?_
  show am_jp pc off L S σ = _
  unfold am_jp
  rw [if_pos h0, h1]
  rfl
theorem r_getI {idx ci j k : Nat} (hd : decode mi.2.2.1 pc = .ok (.getfield idx, 3)) (hf : am_fld mi.1 idx = some (ci, j)) (ht : am_isR (am_ty ci j) = false) (hk : g_o σ k ci) : am_lim call mi pc L (.ref k :: S) σ = am_lim call mi (pc + 3) L (.int (g_I σ k j) :: S) σ := by
  refine r_nx hd ?_
  show am_get mi idx pc L (.ref k :: S) σ = _
  unfold am_get
  have hk' : k < σ.1 ∧ (σ.2.2.1 k).1 = ci + 4 := hk
  simp only [hf, ht]
  rw [if_pos hk']
  rfl
theorem r_getR {idx ci j k : Nat} (hd : decode mi.2.2.1 pc = .ok (.getfield idx, 3)) (hf : am_fld mi.1 idx = some (ci, j)) (ht : am_isR (am_ty ci j) = true) (hk : g_o σ k ci) : am_lim call mi pc L (.ref k :: S) σ = am_lim call mi (pc + 3) L (va_rf (g_R σ k j) :: S) σ := by
  refine r_nx hd ?_
  show am_get mi idx pc L (.ref k :: S) σ = _
  unfold am_get
  have hk' : k < σ.1 ∧ (σ.2.2.1 k).1 = ci + 4 := hk
  simp only [hf, ht]
  rw [if_pos hk']
  rfl
theorem r_putI {idx ci j k : Nat} {x : Int32} (hd : decode mi.2.2.1 pc = .ok (.putfield idx, 3)) (hf : am_fld mi.1 idx = some (ci, j)) (ht : am_ty ci j = .int) (hfin : am_fin mi ci j = true) (hk : g_o σ k ci) : am_lim call mi pc L (.int x :: .ref k :: S) σ = am_lim call mi (pc + 3) L S (am_sI σ k j x) := by
  refine r_nx hd ?_
  show am_put mi idx pc L (.int x :: .ref k :: S) σ = _
  unfold am_put
  simp only [hf]
  rw [if_pos ⟨hk.1, hk.2, hfin, by rw [ht]; rfl, by rw [ht]; rfl, by rw [ht]; rfl⟩]
theorem r_putZ {idx ci j k : Nat} {x : Int32} (hd : decode mi.2.2.1 pc = .ok (.putfield idx, 3)) (hf : am_fld mi.1 idx = some (ci, j)) (ht : am_ty ci j = .boolean) (hfin : am_fin mi ci j = true) (hk : g_o σ k ci) (hx : x = 0 ∨ x = 1) : am_lim call mi pc L (.int x :: .ref k :: S) σ = am_lim call mi (pc + 3) L S (am_sI σ k j x) := by
  refine r_nx hd ?_
  show am_put mi idx pc L (.int x :: .ref k :: S) σ = _
  unfold am_put
  simp only [hf]
  rw [if_pos ⟨hk.1, hk.2, hfin, by rw [ht]; rfl, by rw [ht]; rcases hx with rfl | rfl <;> rfl, by rw [ht]; rcases hx with rfl | rfl <;> rfl⟩]
theorem r_putR {idx ci j k q : Nat} (hd : decode mi.2.2.1 pc = .ok (.putfield idx, 3)) (hf : am_fld mi.1 idx = some (ci, j)) (ht : am_isR (am_ty ci j) = true) (hfin : am_fin mi ci j = true) (hk : g_o σ k ci) : am_lim call mi pc L (.ref q :: .ref k :: S) σ = am_lim call mi (pc + 3) L S (am_sR σ k j (some q)) := by
  refine r_nx hd ?_
  show am_put mi idx pc L (.ref q :: .ref k :: S) σ = _
  unfold am_put
  simp only [hf]
  rw [if_pos ⟨hk.1, hk.2, hfin, ht⟩]
theorem r_putN {idx ci j k : Nat} (hd : decode mi.2.2.1 pc = .ok (.putfield idx, 3)) (hf : am_fld mi.1 idx = some (ci, j)) (ht : am_isR (am_ty ci j) = true) (hfin : am_fin mi ci j = true) (hk : g_o σ k ci) : am_lim call mi pc L (.null :: .ref k :: S) σ = am_lim call mi (pc + 3) L S (am_sR σ k j none) := by
  refine r_nx hd ?_
  show am_put mi idx pc L (.null :: .ref k :: S) σ = _
  unfold am_put
  simp only [hf]
  rw [if_pos ⟨hk.1, hk.2, hfin, ht⟩]
theorem r_iald {k n : Nat} {i : Int32} (hd : decode mi.2.2.1 pc = .ok (.iaload, 1)) (hk : g_a σ k n) (hi : am_in i n) : am_lim call mi pc L (.int i :: .ref k :: S) σ = am_lim call mi (pc + 1) L (.int (g_I σ k i.toNatClampNeg) :: S) σ := by
  refine r_nx hd ?_
  show am_arr .iaload pc L (.int i :: .ref k :: S) σ = _
  unfold am_arr
  dsimp only
  rw [if_pos ⟨hk.1, by rw [hk.2], by rw [hk.2]; exact hi⟩]
  rfl
theorem r_bald {k n : Nat} {i : Int32} (hd : decode mi.2.2.1 pc = .ok (.baload, 1)) (hk : g_b σ k n) (hi : am_in i n) : am_lim call mi pc L (.int i :: .ref k :: S) σ = am_lim call mi (pc + 1) L (.int (g_I σ k i.toNatClampNeg) :: S) σ := by
  refine r_nx hd ?_
  show am_arr .baload pc L (.int i :: .ref k :: S) σ = _
  unfold am_arr
  dsimp only
  rw [if_pos ⟨hk.1, by rw [hk.2], by rw [hk.2]; exact hi⟩]
  rfl
theorem r_aald {k n : Nat} {i : Int32} (hd : decode mi.2.2.1 pc = .ok (.aaload, 1)) (hk : g_q σ k n) (hi : am_in i n) : am_lim call mi pc L (.int i :: .ref k :: S) σ = am_lim call mi (pc + 1) L (va_rf (g_R σ k i.toNatClampNeg) :: S) σ := by
  refine r_nx hd ?_
  show am_arr .aaload pc L (.int i :: .ref k :: S) σ = _
  unfold am_arr
  dsimp only
  have h2 : (σ.2.2.1 k).2 = n := by rcases hk.2 with q | q <;> rw [q]
  rw [if_pos ⟨hk.1, hk.2.elim (fun q => Or.inl (by rw [q])) (fun q => Or.inr (by rw [q])), by rw [h2]; exact hi⟩]
  rfl
theorem r_iast {k n : Nat} {i x : Int32} (hd : decode mi.2.2.1 pc = .ok (.iastore, 1)) (hk : g_a σ k n) (hi : am_in i n) : am_lim call mi pc L (.int x :: .int i :: .ref k :: S) σ = am_lim call mi (pc + 1) L S (am_sI σ k i.toNatClampNeg x) := by
  refine r_nx hd ?_
  show am_arr .iastore pc L (.int x :: .int i :: .ref k :: S) σ = _
  unfold am_arr
  dsimp only
  rw [if_pos ⟨hk.1, by rw [hk.2], by rw [hk.2]; exact hi⟩]
theorem r_bast {k n : Nat} {i x : Int32} (hd : decode mi.2.2.1 pc = .ok (.bastore, 1)) (hk : g_b σ k n) (hi : am_in i n) : am_lim call mi pc L (.int x :: .int i :: .ref k :: S) σ = am_lim call mi (pc + 1) L S (am_sI σ k i.toNatClampNeg (vp_nar .byte x)) := by
  refine r_nx hd ?_
  show am_arr .bastore pc L (.int x :: .int i :: .ref k :: S) σ = _
  unfold am_arr
  dsimp only
  rw [if_pos ⟨hk.1, by rw [hk.2], by rw [hk.2]; exact hi⟩]
theorem r_alen {k n : Nat} (hd : decode mi.2.2.1 pc = .ok (.arraylength, 1)) (hk : g_a σ k n) : am_lim call mi pc L (.ref k :: S) σ = am_lim call mi (pc + 1) L (.int (Int32.ofNat n) :: S) σ := by
  refine r_nx hd ?_
  show am_arr .arraylength pc L (.ref k :: S) σ = _
  unfold am_arr
  dsimp only
  rw [if_pos ⟨hk.1, by rw [hk.2]; exact (by decide : 0 < 4)⟩, hk.2]
theorem r_callV {idx b n : Nat} {m2 : am_I} {S1 rest : List Value} {r : Option Value} {σ1 : am_St} (hd : decode mi.2.2.1 pc = .ok (.invokevirtual idx, 3)) (hm : am_mth mi.1 idx 0 = some m2) (hn : S1.length = m2.2.2.2.2.2.1) (hk : g_o σ b m2.1) (hc : (rest.map fun v => v.category).sum ≤ 8) (hr : call m2 (.ref b :: S1.reverse) σ = some (r, σ1)) : am_lim call mi pc L (S1 ++ .ref b :: rest) σ = am_lim call mi (pc + 3) L (r.toList ++ rest) σ1 := by
  refine r_nx hd ?_
  show am_inv call mi 0 idx pc L (S1 ++ .ref b :: rest) σ = _
  unfold am_inv
  simp only [hm]
  rw [← hn, List.drop_left, List.take_left]
  dsimp only
  have hk' : b < σ.1 ∧ (σ.2.2.1 b).1 = m2.1 + 4 := hk
  rw [if_pos hk']
  unfold am_calls
  rw [if_pos hc, hr]
theorem r_callS {idx n : Nat} {m2 : am_I} {S1 rest : List Value} {r : Option Value} {σ1 : am_St} (hd : decode mi.2.2.1 pc = .ok (.invokestatic idx, 3)) (h1 : am_isC mi.1 idx = false ∧ am_isX mi.1 idx = false ∧ am_isM mi.1 idx = false) (hm : am_mth mi.1 idx 1 = some m2) (hn : S1.length = m2.2.2.2.2.2.1) (hc : (rest.map fun v => v.category).sum ≤ 8) (hr : call m2 S1.reverse σ = some (r, σ1)) : am_lim call mi pc L (S1 ++ rest) σ = am_lim call mi (pc + 3) L (r.toList ++ rest) σ1 := by
  refine r_nx hd ?_
  show am_inv call mi 1 idx pc L (S1 ++ rest) σ = _
  unfold am_inv
  simp only [hm, h1.1, h1.2.1, h1.2.2]
  rw [← hn, List.drop_left, List.take_left]
  simp only [Bool.false_eq_true, if_false]
  rw [if_pos (by rw [List.length_append]; omega)]
  unfold am_calls
  rw [if_pos hc, hr]
end RUL
