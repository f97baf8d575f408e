/-! ===== reading at any tape: the next sign ===== -/
def rd_at (bs : List Int32) (p : Nat) : Int32 := bs.getD p (-1)
def rd_skip (bs : List Int32) (p : Nat) : Nat := p + ((bs.drop p).takeWhile (fun b => decide (b = 32))).length
/-- what a tape holds: bytes, none of them 0 -/
def fd_g (bs : List Int32) : Prop := ∀ b ∈ bs, b &&& 255 = b ∧ b ≠ 0
theorem rd_at_lt {bs : List Int32} {p : Nat} (h : p < bs.length) : rd_at bs p = bs[p] := by
  unfold rd_at
  rw [List.getD_eq_getElem?_getD, List.getElem?_eq_getElem h]
  rfl
theorem rd_at_ge {bs : List Int32} {p : Nat} (h : bs.length ≤ p) : rd_at bs p = -1 := by
  unfold rd_at
  rw [List.getD_eq_getElem?_getD, List.getElem?_eq_none h]
  rfl
theorem rd_skip_end {bs : List Int32} {p : Nat} (h : bs.length ≤ p) : rd_skip bs p = p := by
  rw [rd_skip, List.drop_eq_nil_of_le h]
  rfl
theorem rd_skip_go {bs : List Int32} {p : Nat} (h : p < bs.length) (e : bs[p] = 32) : rd_skip bs p = rd_skip bs (p + 1) := by
  rw [rd_skip, rd_skip, List.drop_eq_getElem_cons h, List.takeWhile_cons_of_pos (by rw [e]; decide), List.length_cons]
  omega
theorem rd_skip_stop {bs : List Int32} {p : Nat} (h : p < bs.length) (e : ¬ bs[p] = 32) : rd_skip bs p = p := by
  rw [rd_skip, List.drop_eq_getElem_cons h, List.takeWhile_cons_of_neg (by rw [decide_eq_true_eq]; exact e)]
  rfl
theorem rd_skip_ge {bs : List Int32} (n : Nat) : ∀ p, bs.length ≤ p + n → p ≤ rd_skip bs p := by
  induction n with
  | zero => intro p h; rw [rd_skip_end (p := p) h]; exact Nat.le_refl _
  | succ n ih =>
    intro p h
    by_cases h1 : p < bs.length
    · by_cases h2 : bs[p] = 32
      · rw [rd_skip_go h1 h2]
        exact Nat.le_trans (Nat.le_succ _) (ih (p + 1) (by omega))
      · rw [rd_skip_stop h1 h2]; exact Nat.le_refl _
    · rw [rd_skip_end (by omega)]; exact Nat.le_refl _
theorem rd_skip_le {bs : List Int32} (n : Nat) : ∀ p, bs.length ≤ p + n → p ≤ bs.length → rd_skip bs p ≤ bs.length := by
  induction n with
  | zero => intro p h hp; rw [rd_skip_end (p := p) h]; exact hp
  | succ n ih =>
    intro p h hp
    by_cases h1 : p < bs.length
    · by_cases h2 : bs[p] = 32
      · rw [rd_skip_go h1 h2]
        exact ih (p + 1) (by omega) (by omega)
      · rw [rd_skip_stop h1 h2]; exact hp
    · rw [rd_skip_end (by omega)]; exact hp
theorem rd_ge {bs : List Int32} {p : Nat} : p ≤ rd_skip bs p := rd_skip_ge bs.length p (by omega)
theorem rd_le {bs : List Int32} {p : Nat} (h : p ≤ bs.length) : rd_skip bs p ≤ bs.length := rd_skip_le bs.length p (by omega) h
theorem am_sI_sI {σ : am_St} {k j : Nat} {v w : Int32} : am_sI (am_sI σ k j v) k j w = am_sI σ k j w := by
  unfold am_sI
  have : (fun a b => if a = k ∧ b = j then w else (fun a b => if a = k ∧ b = j then v else σ.2.2.2.1 a b) a b) = fun a b => if a = k ∧ b = j then w else σ.2.2.2.1 a b := by
    funext a b
    by_cases h : a = k ∧ b = j
    · rw [if_pos h, if_pos h]
    · rw [if_neg h, if_neg h]
      dsimp only
      rw [if_neg h]
  exact congrArg (fun z => (σ.1, σ.2.1, σ.2.2.1, z, σ.2.2.2.2)) this
theorem am_sI_self {σ : am_St} {k j : Nat} {v : Int32} (h : g_I σ k j = v) : am_sI σ k j v = σ := by
  unfold am_sI
  have : (fun a b => if a = k ∧ b = j then v else σ.2.2.2.1 a b) = σ.2.2.2.1 := by
    funext a b
    by_cases q : a = k ∧ b = j
    · rw [if_pos q, q.1, q.2]
      exact h.symm
    · rw [if_neg q]
  rw [this]
theorem fd_by {b : Int32} : b.toInt8.toInt32 &&& 255 = b &&& 255 := by
  apply Int32.toBitVec_inj.mp
  apply BitVec.eq_of_getLsbD_eq
  intro i hi
  have e : (255 : Int32).toBitVec.getLsbD i = decide (i < 8) := by
    have key : ∀ i : Fin 32, (255 : Int32).toBitVec.getLsbD i = decide ((i : Nat) < 8) := by decide
    exact key ⟨i, hi⟩
  rw [Int32.toBitVec_and, Int32.toBitVec_and, BitVec.getLsbD_and, BitVec.getLsbD_and, e]
  by_cases h8 : i < 8
  · rw [Int8.toBitVec_toInt32, BitVec.getLsbD_signExtend, Int32.toBitVec_toInt8, if_pos h8, BitVec.getLsbD_signExtend, if_pos hi]
    simp [h8, hi]
  · simp [h8]
section READ1
variable {call : am_I → List Value → am_St → Option (Option Value × am_St)} {σ : am_St} {bs : List Int32} {p : Nat}
theorem fd_C_I {k j : Nat} {v : Int32} (h : fd_C σ bs) (hk : ¬ k = 127) (hj : ¬ (k = 126 ∧ j = 0)) : fd_C (am_sI σ k j v) bs := ⟨h.1, h.2.1, h.2.2.1, h.2.2.2.1, by rw [g_I_sI, if_neg (by omega)]; exact h.2.2.2.2.1, fun i hi => by rw [g_I_sI, if_neg (by omega)]; exact h.2.2.2.2.2 i hi⟩
theorem fd_M_I {k j : Nat} {v : Int32} (h : fd_M σ bs) (hk : ¬ k = 162) (hj : ¬ (k = 161 ∧ j = 2)) : fd_M (am_sI σ k j v) bs := ⟨h.1, h.2.1, h.2.2.1, h.2.2.2.1, by rw [g_I_sI, if_neg (by omega)]; exact h.2.2.2.2.1, fun i hi => by rw [g_I_sI, if_neg (by omega)]; exact h.2.2.2.2.2 i hi⟩
theorem rd_nx (n : Nat) : ∀ (p : Nat) (σ : am_St), bs.length ≤ p + n → p ≤ bs.length → fd_C σ bs → g_I σ 126 5 = nI p → am_lim call mX3_nextSign 0 [some (.ref 126)] [] σ = am_lim call mX3_nextSign 48 [some (.ref 126)] [] (am_sI σ 126 5 (nI (rd_skip bs p))) := by
  induction n with
  | zero =>
    intro p σ h hp hC h5
    obtain ⟨o, hr, ha, hl, h0, ht⟩ := hC
    rw [rd_skip_end (p := p) h, am_sI_self h5, eX3_nextSign_0, eX3_nextSign_1 o, eX3_nextSign_4, eX3_nextSign_5 o, eX3_nextSign_8, h0, h5, if_pos (nI_le (by omega) (by omega))]
  | succ n ih =>
    intro p σ h hp hC h5
    obtain ⟨o, hr, ha, hl, h0, ht⟩ := id hC
    by_cases h1 : p < bs.length
    · have q1 : ¬ nI bs.length ≤ nI p := nI_ge h1 (by omega)
      have q2 : ¬ (300 : Int32) ≤ nI p := nI_ge (b := 300) (by omega) (by decide)
      have q3 : am_in (nI p) 300 := nI_in (by omega) (by decide)
      by_cases h2 : bs[p] = 32
      · have h6 := ih (p + 1) (am_sI σ 126 5 (nI (p + 1))) (by omega) (by omega) (fd_C_I hC (by decide) (by decide)) (by rw [g_I_sI, if_pos ⟨rfl, rfl⟩])
        rw [am_sI_sI] at h6
        rw [rd_skip_go h1 h2, ← h6, eX3_nextSign_0, eX3_nextSign_1 o, eX3_nextSign_4, eX3_nextSign_5 o, eX3_nextSign_8, h0, h5, if_neg q1, eX3_nextSign_11, eX3_nextSign_12 o, h5, eX3_nextSign_15, eX3_nextSign_18, if_neg q2, eX3_nextSign_21, eX3_nextSign_22 o, hr, va_rf_s, eX3_nextSign_25, eX3_nextSign_26 o, h5, eX3_nextSign_29 ha q3, nI_clamp (by omega), ht p h1, h2, eX3_nextSign_30, eX3_nextSign_32, if_neg (fun z => z rfl), eX3_nextSign_35, eX3_nextSign_36, eX3_nextSign_37 o, h5, eX3_nextSign_40, eX3_nextSign_41, nI_1, eX3_nextSign_42 o, eX3_nextSign_45]
      · rw [rd_skip_stop h1 h2, am_sI_self h5, eX3_nextSign_0, eX3_nextSign_1 o, eX3_nextSign_4, eX3_nextSign_5 o, eX3_nextSign_8, h0, h5, if_neg q1, eX3_nextSign_11, eX3_nextSign_12 o, h5, eX3_nextSign_15, eX3_nextSign_18, if_neg q2, eX3_nextSign_21, eX3_nextSign_22 o, hr, va_rf_s, eX3_nextSign_25, eX3_nextSign_26 o, h5, eX3_nextSign_29 ha q3, nI_clamp (by omega), ht p h1, eX3_nextSign_30, eX3_nextSign_32, if_pos h2]
    · rw [rd_skip_end (by omega), am_sI_self h5, eX3_nextSign_0, eX3_nextSign_1 o, eX3_nextSign_4, eX3_nextSign_5 o, eX3_nextSign_8, h0, h5, if_pos (nI_le (by omega) (by omega))]
theorem rd_nx2 (hC : fd_C σ bs) (h5 : g_I σ 126 5 = nI p) (hp : p ≤ bs.length) : am_lim call mX3_nextSign 48 [some (.ref 126)] [] σ = some (some (.int (rd_at bs p)), σ) := by
  obtain ⟨o, hr, ha, hl, h0, ht⟩ := hC
  by_cases h1 : p < bs.length
  · have q1 : ¬ nI bs.length ≤ nI p := nI_ge h1 (by omega)
    have q2 : ¬ (300 : Int32) ≤ nI p := nI_ge (b := 300) (by omega) (by decide)
    have q3 : am_in (nI p) 300 := nI_in (by omega) (by decide)
    rw [eX3_nextSign_48, eX3_nextSign_49 o, eX3_nextSign_52, eX3_nextSign_53 o, eX3_nextSign_56, h0, h5, if_neg q1, eX3_nextSign_59, eX3_nextSign_60 o, h5, eX3_nextSign_63, eX3_nextSign_66, if_neg q2, eX3_nextSign_69, eX3_nextSign_70 o, hr, va_rf_s, eX3_nextSign_73, eX3_nextSign_74 o, h5, eX3_nextSign_77 ha q3, nI_clamp (by omega), ht p h1, eX3_nextSign_78, eX3_nextSign_82, rd_at_lt h1]
  · rw [eX3_nextSign_48, eX3_nextSign_49 o, eX3_nextSign_52, eX3_nextSign_53 o, eX3_nextSign_56, h0, h5, if_pos (nI_le (by omega) (by omega)), eX3_nextSign_81, eX3_nextSign_82, rd_at_ge (by omega)]
theorem rd_nextSign {d : Nat} (hC : fd_C σ bs) (h5 : g_I σ 126 5 = nI p) (hp : p ≤ bs.length) : am_run (d + 1) mX3_nextSign [.ref 126] σ = some (some (.int (rd_at bs (rd_skip bs p))), am_sI σ 126 5 (nI (rd_skip bs p))) := by
  rw [nX3_nextSign, rd_nx bs.length p σ (by omega) hp hC h5]
  exact rd_nx2 (fd_C_I hC (by decide) (by decide)) (by rw [g_I_sI, if_pos ⟨rfl, rfl⟩]) (rd_le hp)
theorem rd_here {d : Nat} (hC : fd_C σ bs) (h5 : g_I σ 126 5 = nI p) (hp : p ≤ bs.length) : am_run (d + 1) mX3_here [.ref 126] σ = some (some (.int (rd_at bs p)), σ) := by
  obtain ⟨o, hr, ha, hl, h0, ht⟩ := hC
  by_cases h1 : p < bs.length
  · have q1 : ¬ nI bs.length ≤ nI p := nI_ge h1 (by omega)
    have q2 : ¬ (300 : Int32) ≤ nI p := nI_ge (b := 300) (by omega) (by decide)
    have q3 : am_in (nI p) 300 := nI_in (by omega) (by decide)
    rw [nX3_here, eX3_here_0, eX3_here_1 o, eX3_here_4, eX3_here_5 o, eX3_here_8, h0, h5, if_neg q1, eX3_here_11, eX3_here_12 o, h5, eX3_here_15, eX3_here_18, if_neg q2, eX3_here_21, eX3_here_22 o, hr, va_rf_s, eX3_here_25, eX3_here_26 o, h5, eX3_here_29 ha q3, nI_clamp (by omega), ht p h1, eX3_here_30, eX3_here_34, rd_at_lt h1]
  · rw [nX3_here, eX3_here_0, eX3_here_1 o, eX3_here_4, eX3_here_5 o, eX3_here_8, h0, h5, if_pos (nI_le (by omega) (by omega)), eX3_here_33, eX3_here_34, rd_at_ge (by omega)]
theorem rm_here {d : Nat} (hg : fd_g bs) (hC : fd_M σ bs) (h3 : g_I σ 161 3 = nI p) (hp : p ≤ bs.length) : am_run (d + 1) mX12_here [.ref 161] σ = some (some (.int (rd_at bs p)), σ) := by
  obtain ⟨o, hr, ha, hl, h0, ht⟩ := hC
  by_cases h1 : p < bs.length
  · have q1 : ¬ nI bs.length ≤ nI p := nI_ge h1 (by omega)
    have q3 : am_in (nI p) 300 := nI_in (by omega) (by decide)
    have q4 : bs[p].toInt8.toInt32 &&& 255 = bs[p] := fd_by.trans (hg _ (List.getElem_mem h1)).1
    rw [nX12_here, eX12_here_0, eX12_here_1 o, eX12_here_4, eX12_here_5 o, eX12_here_8, h0, h3, if_neg q1, eX12_here_11, eX12_here_12 o, hr, va_rf_s, eX12_here_15, eX12_here_16 o, h3, eX12_here_19 ha q3, nI_clamp (by omega), ht p h1, eX12_here_20, eX12_here_23, q4, eX12_here_24, eX12_here_28, rd_at_lt h1]
  · rw [nX12_here, eX12_here_0, eX12_here_1 o, eX12_here_4, eX12_here_5 o, eX12_here_8, h0, h3, if_pos (nI_le (by omega) (by omega)), eX12_here_27, eX12_here_28, rd_at_ge (by omega)]
theorem rm_lk {d : Nat} (hg : fd_g bs) (n : Nat) : ∀ (p : Nat) (σ : am_St), bs.length ≤ p + n → p ≤ bs.length → fd_M σ bs → g_I σ 161 3 = nI p → am_lim (am_run (d + 1)) mX12_look 0 [some (.ref 161)] [] σ = am_lim (am_run (d + 1)) mX12_look 22 [some (.ref 161)] [] (am_sI σ 161 3 (nI (rd_skip bs p))) := by
  induction n with
  | zero =>
    intro p σ h hp hC h3
    rw [rd_skip_end (p := p) h, am_sI_self h3, eX12_look_0, eX12_look_1 hC.1, rm_here hg hC h3 hp, am_k_s, rd_at_ge (p := p) h]
    show am_lim (am_run (d + 1)) mX12_look 4 [some (.ref 161)] [.int (-1)] σ = _
    rw [eX12_look_4, eX12_look_6, if_pos (by decide)]
  | succ n ih =>
    intro p σ h hp hC h3
    by_cases h1 : p < bs.length
    · rw [eX12_look_0, eX12_look_1 hC.1, rm_here hg hC h3 hp, am_k_s, rd_at_lt h1]
      show am_lim (am_run (d + 1)) mX12_look 4 [some (.ref 161)] [.int bs[p]] σ = _
      by_cases h2 : bs[p] = 32
      · have h6 := ih (p + 1) (am_sI σ 161 3 (nI (p + 1))) (by omega) (by omega) (fd_M_I hC (by decide) (by decide)) (by rw [g_I_sI, if_pos ⟨rfl, rfl⟩])
        rw [am_sI_sI] at h6
        rw [rd_skip_go h1 h2, ← h6, h2, eX12_look_4, eX12_look_6, if_neg (fun z => z rfl), eX12_look_9, eX12_look_10, eX12_look_11 hC.1, h3, eX12_look_14, eX12_look_15, nI_1, eX12_look_16 hC.1, eX12_look_19]
      · rw [rd_skip_stop h1 h2, am_sI_self h3, eX12_look_4, eX12_look_6, if_pos h2]
    · rw [rd_skip_end (by omega), am_sI_self h3, eX12_look_0, eX12_look_1 hC.1, rm_here hg hC h3 hp, am_k_s, rd_at_ge (by omega)]
      show am_lim (am_run (d + 1)) mX12_look 4 [some (.ref 161)] [.int (-1)] σ = _
      rw [eX12_look_4, eX12_look_6, if_pos (by decide)]
theorem rm_look {d : Nat} (hg : fd_g bs) (hC : fd_M σ bs) (h3 : g_I σ 161 3 = nI p) (hp : p ≤ bs.length) : am_run (d + 2) mX12_look [.ref 161] σ = some (some (.int (rd_at bs (rd_skip bs p))), am_sI σ 161 3 (nI (rd_skip bs p))) := by
  have hC' : fd_M (am_sI σ 161 3 (nI (rd_skip bs p))) bs := fd_M_I hC (by decide) (by decide)
  rw [nX12_look, rm_lk hg bs.length p σ (by omega) hp hC h3, eX12_look_22, eX12_look_23 hC'.1, rm_here hg hC' (by rw [g_I_sI, if_pos ⟨rfl, rfl⟩]) (rd_le hp), am_k_s]
  exact eX12_look_26
end READ1
