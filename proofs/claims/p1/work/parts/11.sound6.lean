theorem am_ex_args (base : Nat) : ∀ (as : List Value) (i k : Nat) (v : Value), (am_ex as)[i]? = some (some v) → (k + i, am_v base v) ∈ lv_args k (as.map (am_v base)) ∧ v ∈ as := by
  intro as
  induction as with
  | nil => intro i k v h; simp [am_ex] at h
  | cons a as ih =>
    intro i k v h
    have e : am_ex (a :: as) = (if a.category = 2 then [some a, none] else [some a]) ++ am_ex as := by simp [am_ex]
    rw [e] at h
    rw [List.map_cons]
    unfold lv_args
    rw [am_v_cat]
    by_cases hc : a.category = 2
    · rw [if_pos hc] at h
      rw [if_pos hc]
      match i, h with
      | 0, h =>
        simp at h
        subst h
        exact ⟨List.mem_cons_self, List.mem_cons_self⟩
      | 1, h => simp at h
      | i + 2, h =>
        have h' : (am_ex as)[i]? = some (some v) := by simpa using h
        obtain ⟨h1, h2⟩ := ih i (k + 2) v h'
        refine ⟨List.mem_cons_of_mem _ ?_, List.mem_cons_of_mem _ h2⟩
        rw [show k + (i + 2) = k + 2 + i by omega]
        exact h1
    · rw [if_neg hc] at h
      rw [if_neg hc]
      match i, h with
      | 0, h =>
        simp at h
        subst h
        exact ⟨List.mem_cons_self, List.mem_cons_self⟩
      | i + 1, h =>
        have h' : (am_ex as)[i]? = some (some v) := by simpa using h
        obtain ⟨h1, h2⟩ := ih i (k + 1) v h'
        refine ⟨List.mem_cons_of_mem _ ?_, List.mem_cons_of_mem _ h2⟩
        rw [show k + (i + 1) = k + 1 + i by omega]
        exact h1
theorem am_ex_len (base : Nat) (as : List Value) : (lg_sl (as.map (am_v base))).length = (am_ex as).length := by
  induction as with
  | nil => rfl
  | cons a as ih =>
    have e1 : am_ex (a :: as) = (if a.category = 2 then [some a, none] else [some a]) ++ am_ex as := by simp [am_ex]
    have e2 : lg_sl ((a :: as).map (am_v base)) = (if (am_v base a).category = 2 then [Slot.val (am_v base a), .second] else [Slot.val (am_v base a)]) ++ lg_sl (as.map (am_v base)) := by simp [lg_sl]
    rw [e1, e2, am_v_cat, List.length_append, List.length_append, ih]
    split <;> rfl
theorem am_en_at {mi : am_I} {as : List Value} {i : Nat} {v : Value} (h : (am_en mi as)[i]? = some (some v)) : (am_ex as)[i]? = some (some v) := by
  unfold am_en at h
  by_cases hi : i < (am_ex as).length
  · rw [List.getElem?_append_left hi] at h
    exact h
  · rw [List.getElem?_append_right (by omega), List.getElem?_replicate] at h
    split at h <;> cases h
/-- THE SOUNDNESS of the abstract machine: what it answers, the Java machine answers -/
theorem am_sound (l : Launch) (D : va_G) (cA : Nat → ClassId) (base : Nat) : ∀ d, am_CO l D cA base d (am_run d) := by
  intro d
  induction d with
  | zero => intro m2 as σ r σ1 _ h; cases h
  | succ d ih =>
    intro m2 as σ r σ1 hg h
    unfold am_run at h
    split at h
    · rename_i hc
      refine ⟨fun sz hal => ?_, hc.2.1⟩
      obtain ⟨f, hf⟩ := am_lim_iff.mp h
      have ho := hg.2
      simp only [am_okI, Bool.and_eq_true, decide_eq_true_eq, beq_iff_eq] at ho
      refine Met.ofW (cc := m2.2.2.1) (maxL := m2.2.2.2.1) (ret := m2.2.2.2.2.1) ho.1.1.1.2 rfl ?_
      intro p e s m args below meth c s₁ B hml hv
      obtain ⟨rfl, hsz, hP, hK⟩ := hv
      have hts := atoms_spec (ws := am_wd m2) B.pre
      have hown : s.vm.findClass m2.2.1.cls = some m.cls := findClass_of_methodNamed B.named
      rw [ho.1.1.1.1] at hown
      have hC : am_Cx p (headSpec (am_wd m2) (am_rm (d + 1) σ σ1)).room s m (as.map (am_v base)).toArray meth c D cA base sz σ.1 σ.2.1 σ1.1 σ1.2.1 d m2 := ⟨B.exec, B.bytes, B.returns, hml, hown, fun w hw => hts w (List.mem_cons_of_mem _ hw), B.notSynchronized, (name_of_methodNamed B.named B.method).1, hK, ⟨hsz, hal⟩, Nat.le_refl _, Nat.le_refl _, Nat.le_refl _, Nat.le_refl _⟩
      have key := am_s_go (below := below) (e := e) hC ih (am_up_run d) (σ0 := σ) rfl f 0 (am_en m2 as) [] σ hf (Nat.le_refl _) (Nat.le_refl _)
      have hl := lv_entry (as.map (am_v base)) (n := m2.2.2.2.1) (by rw [am_ex_len]; exact hc.1)
      rw [lg_entry_eq]
      generalize (lg_sl (as.map (am_v base)) ++ List.replicate (m2.2.2.2.1 - (lg_sl (as.map (am_v base))).length) Slot.unset).toArray = ls at hl ⊢
      have hlr : am_lr base m2.2.2.2.1 m2.2.2.2.2.2.2 (am_en m2 as) ls := by
        refine ⟨hl.1, hl.2.1, fun i v hi => ?_, fun hlg i v hi => ?_⟩
        · have h1 := (am_ex_args base as i 0 v (am_en_at hi)).1
          rw [Nat.zero_add] at h1
          exact hl.2.2 _ h1
        · have h1 := (am_ex_args base as i 0 v (am_en_at hi)).2
          rcases hc.2.2 with q | q
          · rw [hlg] at q; cases q
          · simpa using List.all_eq_true.mp q v h1
      have k2 := key s.heap [] ls ⟨hP, va_S.rf, hlr⟩
      rw [Nat.sub_self, Nat.sub_self] at k2
      exact k2
    · cases h
