/-! ===== feed ===== -/
def fd_y (w s : Int32) : Int32 := w >>> (s &&& 31) &&& 255
def fd_1 (x : Int32) : List Int32 := if x = 0 then [] else [x]
def fd_b (w : Int32) : List Int32 := fd_1 (fd_y w 24) ++ fd_1 (fd_y w 16) ++ fd_1 (fd_y w 8) ++ fd_1 (fd_y w 0)
/-- all but some places is as it was -/
def w_fr (P : Nat → Nat → Prop) (σ σ' : am_St) : Prop := σ'.1 = σ.1 ∧ σ'.2.1 = σ.2.1 ∧ σ'.2.2.1 = σ.2.2.1 ∧ (∀ k j, ¬ P k j → g_I σ' k j = g_I σ k j) ∧ ∀ k j, ¬ P k j → g_R σ' k j = g_R σ k j
theorem w_fr.rf {P : Nat → Nat → Prop} {σ : am_St} : w_fr P σ σ := ⟨rfl, rfl, rfl, fun _ _ _ => rfl, fun _ _ _ => rfl⟩
theorem w_fr.tr {P : Nat → Nat → Prop} {a b c : am_St} (h1 : w_fr P a b) (h2 : w_fr P b c) : w_fr P a c := ⟨h2.1.trans h1.1, h2.2.1.trans h1.2.1, h2.2.2.1.trans h1.2.2.1, fun k j h => (h2.2.2.2.1 k j h).trans (h1.2.2.2.1 k j h), fun k j h => (h2.2.2.2.2 k j h).trans (h1.2.2.2.2 k j h)⟩
theorem w_fr.sI {P : Nat → Nat → Prop} {σ : am_St} {k j : Nat} {v : Int32} (h : P k j) : w_fr P σ (am_sI σ k j v) := ⟨rfl, rfl, rfl, fun a b q => by
  rw [g_I_sI, if_neg]
  rintro ⟨rfl, rfl⟩
  exact q h, fun _ _ _ => rfl⟩
theorem w_fr.o {P : Nat → Nat → Prop} {a b : am_St} (h : w_fr P a b) {k c : Nat} (q : g_o a k c) : g_o b k c := ⟨by rw [h.1]; exact q.1, by rw [h.2.2.1]; exact q.2⟩
theorem w_fr.a {P : Nat → Nat → Prop} {a b : am_St} (h : w_fr P a b) {k c : Nat} (q : g_a a k c) : g_a b k c := ⟨by rw [h.1]; exact q.1, by rw [h.2.2.1]; exact q.2⟩
theorem w_fr.b {P : Nat → Nat → Prop} {a b : am_St} (h : w_fr P a b) {k c : Nat} (q : g_b a k c) : g_b b k c := ⟨by rw [h.1]; exact q.1, by rw [h.2.2.1]; exact q.2⟩
/-- the class's tape -/
def fd_C (σ : am_St) (bs : List Int32) : Prop := g_o σ 126 3 ∧ g_R σ 126 3 = some 127 ∧ g_a σ 127 300 ∧ bs.length ≤ 300 ∧ g_I σ 126 0 = nI bs.length ∧ ∀ i (h : i < bs.length), g_I σ 127 i = bs[i]
def fd_PC (k j : Nat) : Prop := k = 127 ∨ (k = 126 ∧ j = 0)
/-- the model's tape -/
def fd_M (σ : am_St) (bs : List Int32) : Prop := g_o σ 161 12 ∧ g_R σ 161 1 = some 162 ∧ g_b σ 162 300 ∧ bs.length ≤ 300 ∧ g_I σ 161 2 = nI bs.length ∧ ∀ i (h : i < bs.length), g_I σ 162 i = bs[i].toInt8.toInt32
def fd_PM (k j : Nat) : Prop := k = 162 ∨ (k = 161 ∧ (j = 2 ∨ j = 0))
section FEED
variable {call : am_I → List Value → am_St → Option (Option Value × am_St)} {σ : am_St} {bs : List Int32} {w s s' : Int32}
theorem fd_C_put {x : Int32} (h : fd_C σ bs) (hl : bs.length < 300) : fd_C (am_sI (am_sI σ 127 bs.length x) 126 0 (nI (bs.length + 1))) (bs ++ [x]) := by
  refine ⟨h.1, h.2.1, h.2.2.1, by rw [List.length_append]; exact hl, by rw [g_I_sI, if_pos ⟨rfl, rfl⟩, List.length_append]; rfl, fun i hi => ?_⟩
  rw [g_I_sI, if_neg (fun z => absurd z.1 (by decide)), g_I_sI]
  rw [List.length_append] at hi
  have hi' : i < bs.length + 1 := hi
  by_cases e : i = bs.length
  · subst e
    rw [if_pos ⟨rfl, rfl⟩, List.getElem_append_right (Nat.le_refl _)]
    simp
  · rw [if_neg (fun z => e z.2), h.2.2.2.2.2 i (by omega), List.getElem_append_left]
theorem fd_M_put {x : Int32} (h : fd_M σ bs) (hl : bs.length < 300) : fd_M (am_sI (am_sI σ 162 bs.length x.toInt8.toInt32) 161 2 (nI (bs.length + 1))) (bs ++ [x]) := by
  refine ⟨h.1, h.2.1, h.2.2.1, by rw [List.length_append]; exact hl, by rw [g_I_sI, if_pos ⟨rfl, rfl⟩, List.length_append]; rfl, fun i hi => ?_⟩
  rw [g_I_sI, if_neg (fun z => absurd z.1 (by decide)), g_I_sI]
  rw [List.length_append] at hi
  have hi' : i < bs.length + 1 := hi
  by_cases e : i = bs.length
  · subst e
    rw [if_pos ⟨rfl, rfl⟩, List.getElem_append_right (Nat.le_refl _)]
    simp
  · rw [if_neg (fun z => e z.2), h.2.2.2.2.2 i (by omega), List.getElem_append_left]
theorem fd_it {l3 : Option Value} (hC : fd_C σ bs) (hs : ¬ s < 0) (hs' : s + (-8) = s') (hl : bs.length + (fd_1 (fd_y w s)).length ≤ 300) : ∃ σ', am_lim call mX3_put 3 [some (.ref 126), some (.int w), some (.int s), l3] [] σ = am_lim call mX3_put 3 [some (.ref 126), some (.int w), some (.int s'), some (.int (fd_y w s))] [] σ' ∧ fd_C σ' (bs ++ fd_1 (fd_y w s)) ∧ w_fr fd_PC σ σ' := by
  by_cases h : fd_y w s = 0
  · have h' : w >>> (s &&& 31) &&& 255 = 0 := h
    refine ⟨σ, ?_, by rw [fd_1, if_pos h, List.append_nil]; exact hC, w_fr.rf⟩
    rw [eX3_put_3, eX3_put_4, if_neg hs, eX3_put_7, eX3_put_8, eX3_put_9, eX3_put_10, eX3_put_13, eX3_put_14, eX3_put_15, eX3_put_16, if_pos h', eX3_put_49, eX3_put_52, hs']
    rfl
  · have h' : ¬ w >>> (s &&& 31) &&& 255 = 0 := h
    have e1 : fd_1 (fd_y w s) = [fd_y w s] := if_neg h
    rw [e1] at hl ⊢
    have hl' : bs.length < 300 := hl
    obtain ⟨o, hr, ha, _, h5, _⟩ := id hC
    have q1 : ¬ (300 : Int32) ≤ nI bs.length := nI_ge (b := 300) hl' (by decide)
    have q2 : am_in (nI bs.length) 300 := nI_in hl' (by decide)
    have h6 : ∀ x, g_I (am_sI σ 127 bs.length x) 126 0 = nI bs.length := fun x => by rw [g_I_sI, if_neg (fun z => absurd z.1 (by decide)), h5]
    refine ⟨_, ?_, fd_C_put hC hl', (w_fr.sI (Or.inl rfl)).tr (w_fr.sI (Or.inr ⟨rfl, rfl⟩))⟩
    rw [eX3_put_3, eX3_put_4, if_neg hs, eX3_put_7, eX3_put_8, eX3_put_9, eX3_put_10, eX3_put_13, eX3_put_14, eX3_put_15, eX3_put_16, if_neg h', eX3_put_19, eX3_put_20 o, h5, eX3_put_23, eX3_put_26, if_neg q1, eX3_put_29, eX3_put_30 o, hr, va_rf_s, eX3_put_33, eX3_put_34 o, h5, eX3_put_37, eX3_put_38 ha q2, nI_clamp (by omega), eX3_put_39, eX3_put_40, eX3_put_41 (σ := am_sI σ 127 bs.length (w >>> (s &&& 31) &&& 255)) o, h6, eX3_put_44, eX3_put_45, nI_1, eX3_put_46 (σ := am_sI σ 127 bs.length (w >>> (s &&& 31) &&& 255)) o, eX3_put_49, eX3_put_52, hs']
    rfl
theorem fm_it {l3 : Option Value} (hC : fd_M σ bs) (hs : ¬ s < 0) (hs' : s + (-8) = s') (hl : bs.length + (fd_1 (fd_y w s)).length ≤ 300) : ∃ σ', am_lim call mX12_brings 3 [some (.ref 161), some (.int w), some (.int s), l3] [] σ = am_lim call mX12_brings 3 [some (.ref 161), some (.int w), some (.int s'), some (.int (fd_y w s))] [] σ' ∧ fd_M σ' (bs ++ fd_1 (fd_y w s)) ∧ w_fr fd_PM σ σ' := by
  by_cases h : fd_y w s = 0
  · have h' : ¬ w >>> (s &&& 31) &&& 255 ≠ 0 := fun z => z h
    refine ⟨σ, ?_, by rw [fd_1, if_pos h, List.append_nil]; exact hC, w_fr.rf⟩
    rw [eX12_brings_3, eX12_brings_4, if_neg hs, eX12_brings_7, eX12_brings_8, eX12_brings_9, eX12_brings_10, eX12_brings_13, eX12_brings_14, eX12_brings_15, eX12_brings_16, if_neg h', eX12_brings_19, eX12_brings_43, eX12_brings_46, hs']
    rfl
  · have h' : w >>> (s &&& 31) &&& 255 ≠ 0 := h
    have e1 : fd_1 (fd_y w s) = [fd_y w s] := if_neg h
    rw [e1] at hl ⊢
    have hl' : bs.length < 300 := hl
    obtain ⟨o, hr, ha, _, h5, _⟩ := id hC
    have q2 : am_in (nI bs.length) 300 := nI_in hl' (by decide)
    have h6 : ∀ x, g_I (am_sI σ 162 bs.length x) 161 2 = nI bs.length := fun x => by rw [g_I_sI, if_neg (fun z => absurd z.1 (by decide)), h5]
    have h7 : ∀ x : Int32, vp_nar .byte x.toInt8.toInt32 = x.toInt8.toInt32 := fun x => by rw [vp_nar_byte, Int8.toInt8_toInt32]
    refine ⟨_, ?_, fd_M_put hC hl', (w_fr.sI (Or.inl rfl)).tr (w_fr.sI (Or.inr ⟨rfl, Or.inl rfl⟩))⟩
    rw [eX12_brings_3, eX12_brings_4, if_neg hs, eX12_brings_7, eX12_brings_8, eX12_brings_9, eX12_brings_10, eX12_brings_13, eX12_brings_14, eX12_brings_15, eX12_brings_16, if_pos h', eX12_brings_22, eX12_brings_23 o, hr, va_rf_s, eX12_brings_26, eX12_brings_27 o, h5, eX12_brings_30, eX12_brings_31, eX12_brings_32 ha q2, h7, nI_clamp (by omega), eX12_brings_33, eX12_brings_34, eX12_brings_35 (σ := am_sI σ 162 bs.length (w >>> (s &&& 31) &&& 255).toInt8.toInt32) o, h6, eX12_brings_38, eX12_brings_39, nI_1, eX12_brings_40 (σ := am_sI σ 162 bs.length (w >>> (s &&& 31) &&& 255).toInt8.toInt32) o, eX12_brings_43, eX12_brings_46, hs']
    rfl
theorem fd_len : (fd_b w).length = (fd_1 (fd_y w 24)).length + (fd_1 (fd_y w 16)).length + (fd_1 (fd_y w 8)).length + (fd_1 (fd_y w 0)).length := by
  rw [fd_b, List.length_append, List.length_append, List.length_append]
theorem fd_put {d : Nat} (hC : fd_C σ bs) (hl : bs.length + (fd_b w).length ≤ 300) : ∃ σ', am_run (d + 1) mX3_put [.ref 126, .int w] σ = some (none, σ') ∧ fd_C σ' (bs ++ fd_b w) ∧ w_fr fd_PC σ σ' := by
  rw [fd_len] at hl
  obtain ⟨σ1, e1, c1, f1⟩ := fd_it (call := am_run d) (l3 := none) (s := 24) (s' := 16) (w := w) hC (by decide) (by decide) (by omega)
  obtain ⟨σ2, e2, c2, f2⟩ := fd_it (call := am_run d) (l3 := some (.int (fd_y w 24))) (s := 16) (s' := 8) (w := w) c1 (by decide) (by decide) (by rw [List.length_append]; omega)
  obtain ⟨σ3, e3, c3, f3⟩ := fd_it (call := am_run d) (l3 := some (.int (fd_y w 16))) (s := 8) (s' := 0) (w := w) c2 (by decide) (by decide) (by rw [List.length_append, List.length_append]; omega)
  obtain ⟨σ4, e4, c4, f4⟩ := fd_it (call := am_run d) (l3 := some (.int (fd_y w 8))) (s := 0) (s' := -8) (w := w) c3 (by decide) (by decide) (by rw [List.length_append, List.length_append, List.length_append]; omega)
  refine ⟨σ4, ?_, by rw [fd_b]; simpa only [List.append_assoc] using c4, f1.tr (f2.tr (f3.tr f4))⟩
  rw [nX3_put, eX3_put_0, eX3_put_2, e1, e2, e3, e4, eX3_put_3, eX3_put_4, if_pos (by decide), eX3_put_55]
theorem fm_put {d : Nat} (hC : fd_M σ bs) (hl : bs.length + (fd_b w).length ≤ 300) : ∃ σ', am_run (d + 1) mX12_brings [.ref 161, .int w] σ = some (none, σ') ∧ fd_M σ' (bs ++ fd_b w) ∧ w_fr fd_PM σ σ' := by
  rw [fd_len] at hl
  obtain ⟨σ1, e1, c1, f1⟩ := fm_it (call := am_run d) (l3 := none) (s := 24) (s' := 16) (w := w) hC (by decide) (by decide) (by omega)
  obtain ⟨σ2, e2, c2, f2⟩ := fm_it (call := am_run d) (l3 := some (.int (fd_y w 24))) (s := 16) (s' := 8) (w := w) c1 (by decide) (by decide) (by rw [List.length_append]; omega)
  obtain ⟨σ3, e3, c3, f3⟩ := fm_it (call := am_run d) (l3 := some (.int (fd_y w 16))) (s := 8) (s' := 0) (w := w) c2 (by decide) (by decide) (by rw [List.length_append, List.length_append]; omega)
  obtain ⟨σ4, e4, c4, f4⟩ := fm_it (call := am_run d) (l3 := some (.int (fd_y w 8))) (s := 0) (s' := -8) (w := w) c3 (by decide) (by decide) (by rw [List.length_append, List.length_append, List.length_append]; omega)
  refine ⟨σ4, ?_, by rw [fd_b]; simpa only [List.append_assoc] using c4, f1.tr (f2.tr (f3.tr f4))⟩
  rw [nX12_brings, eX12_brings_0, eX12_brings_2, e1, e2, e3, e4, eX12_brings_3, eX12_brings_4, if_pos (by decide), eX12_brings_49]
theorem fd_ct {n : Nat} (hs : ¬ s < 0) (hs' : s + (-8) = s') : am_lim call mX3_bytesIn 5 [some (.int w), some (.int (nI n)), some (.int s)] [] σ = am_lim call mX3_bytesIn 5 [some (.int w), some (.int (nI (n + (fd_1 (fd_y w s)).length))), some (.int s')] [] σ := by
  rw [eX3_bytesIn_5, eX3_bytesIn_6, if_neg hs, eX3_bytesIn_9, eX3_bytesIn_10, eX3_bytesIn_11, eX3_bytesIn_12, eX3_bytesIn_15, eX3_bytesIn_16]
  by_cases h : fd_y w s = 0
  · have h' : w >>> (s &&& 31) &&& 255 = 0 := h
    rw [if_pos h', eX3_bytesIn_22, eX3_bytesIn_25, hs', fd_1, if_pos h]
    rfl
  · have h' : ¬ w >>> (s &&& 31) &&& 255 = 0 := h
    rw [if_neg h', eX3_bytesIn_19, eX3_bytesIn_22, eX3_bytesIn_25, hs', fd_1, if_neg h, nI_1]
    rfl
theorem fd_bytesIn {d : Nat} : am_run (d + 1) mX3_bytesIn [.int w] σ = some (some (.int (nI (fd_b w).length)), σ) := by
  rw [nX3_bytesIn, eX3_bytesIn_0, eX3_bytesIn_1, eX3_bytesIn_2, eX3_bytesIn_4, show (0 : Int32) = nI 0 from rfl, fd_ct (s := 24) (s' := 16) (by decide) (by decide), fd_ct (s := 16) (s' := 8) (by decide) (by decide), fd_ct (s := 8) (s' := 0) (by decide) (by decide), fd_ct (s := 0) (s' := -8) (by decide) (by decide), eX3_bytesIn_5, eX3_bytesIn_6, if_pos (by decide), eX3_bytesIn_28, eX3_bytesIn_29, fd_len, Nat.zero_add]
theorem fm_ct {n : Nat} {k k' : Int32} (hk : ¬ (4 : Int32) ≤ k) (hs : 8 * k = s) (hk' : k + 1 = k') : am_lim call mX12_bytesOf 4 [some (.int w), some (.int (nI n)), some (.int k)] [] σ = am_lim call mX12_bytesOf 4 [some (.int w), some (.int (nI (n + (fd_1 (fd_y w s)).length))), some (.int k')] [] σ := by
  rw [eX12_bytesOf_4, eX12_bytesOf_5, eX12_bytesOf_6, if_neg hk, eX12_bytesOf_9, eX12_bytesOf_10, eX12_bytesOf_11, eX12_bytesOf_13, eX12_bytesOf_14, hs, eX12_bytesOf_15, eX12_bytesOf_16, eX12_bytesOf_19, eX12_bytesOf_20]
  by_cases h : fd_y w s = 0
  · have h' : ¬ w >>> (s &&& 31) &&& 255 ≠ 0 := fun z => z h
    rw [if_neg h', eX12_bytesOf_23, eX12_bytesOf_24, eX12_bytesOf_28, eX12_bytesOf_29, eX12_bytesOf_30, eX12_bytesOf_33, hk', fd_1, if_pos h, show nI n + 0 = nI (n + 0) from nI_add n 0]
    rfl
  · have h' : w >>> (s &&& 31) &&& 255 ≠ 0 := h
    rw [if_pos h', eX12_bytesOf_27, eX12_bytesOf_28, eX12_bytesOf_29, eX12_bytesOf_30, eX12_bytesOf_33, hk', fd_1, if_neg h, nI_1]
    rfl
theorem fm_bytesOf {d : Nat} : am_run (d + 1) mX12_bytesOf [.int w] σ = some (some (.int (nI (fd_b w).length)), σ) := by
  rw [nX12_bytesOf, eX12_bytesOf_0, eX12_bytesOf_1, eX12_bytesOf_2, eX12_bytesOf_3]
  have h := fm_ct (call := am_run d) (σ := σ) (w := w) (n := 0) (k := 0) (k' := 1) (s := 0) (by decide) (by decide) (by decide)
  rw [show nI 0 = 0 from rfl] at h
  rw [h, fm_ct (k := 1) (k' := 2) (s := 8) (by decide) (by decide) (by decide), fm_ct (k := 2) (k' := 3) (s := 16) (by decide) (by decide) (by decide), fm_ct (k := 3) (k' := 4) (s := 24) (by decide) (by decide) (by decide), eX12_bytesOf_4, eX12_bytesOf_5, eX12_bytesOf_6, if_pos (by decide), eX12_bytesOf_36, eX12_bytesOf_37, fd_len]
  have : 0 + (fd_1 (fd_y w 0)).length + (fd_1 (fd_y w 8)).length + (fd_1 (fd_y w 16)).length + (fd_1 (fd_y w 24)).length = (fd_1 (fd_y w 24)).length + (fd_1 (fd_y w 16)).length + (fd_1 (fd_y w 8)).length + (fd_1 (fd_y w 0)).length := by omega
  rw [this]
end FEED
