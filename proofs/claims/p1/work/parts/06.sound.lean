/-! ===== what a state of the abstract machine is in the heap ===== -/
/-- a reference of the machine is a cell's number; .retAddr a stands for a reference to a cell that isn't the machine's -/
def am_v (base : Nat) : Value → Value
  | .ref k => .ref (base + k)
  | .retAddr a => .ref a
  | v => v
theorem am_v_cat (base : Nat) (v : Value) : (am_v base v).category = v.category := by cases v <;> rfl
theorem am_v_rf (base : Nat) (o : Option Nat) : am_v base (va_rf o) = va_rf (o.map (base + ·)) := by cases o <;> rfl
def am_fv (base : Nat) (σ : am_St) (k ci j : Nat) : Value := if am_isR (am_ty ci j) then va_rf ((σ.2.2.2.2 k j).map (base + ·)) else .int (σ.2.2.2.1 k j)
def am_fs (base : Nat) (σ : am_St) (k ci : Nat) : List Value := (List.range (am_nf ci)).map (am_fv base σ k ci)
def am_cell (cA : Nat → ClassId) (base : Nat) (σ : am_St) (k : Nat) : va_E := match (σ.2.2.1 k).1 with
  | 0 => .inl (cA 0, (σ.2.2.1 k).2, .inl (σ.2.2.2.1 k))
  | 1 => .inl (cA 1, (σ.2.2.1 k).2, .inl (σ.2.2.2.1 k))
  | 2 => .inl (cA 2, (σ.2.2.1 k).2, .inr (.inr (.inr (.inr (fun j => (σ.2.2.2.2 k j).map (base + ·))))))
  | 3 => .inl (cA 3, (σ.2.2.1 k).2, .inr (.inr (.inr (.inr (fun j => (σ.2.2.2.2 k j).map (base + ·))))))
  | c + 4 => .inr (c, am_fs base σ k c)
def am_wl (cA : Nat → ClassId) (base : Nat) (σ : am_St) : va_W := (List.range σ.1).map (fun k => (base + k, am_cell cA base σ k))
theorem am_wl_at {cA : Nat → ClassId} {base : Nat} {σ : am_St} {k : Nat} (h : k < σ.1) : (am_wl cA base σ)[k]? = some (base + k, am_cell cA base σ k) := by
  simp [am_wl, h]
theorem am_wl_of {cA : Nat → ClassId} {base : Nat} {σ : am_St} {k : Nat} {q : Nat × va_E} (h : (am_wl cA base σ)[k]? = some q) : k < σ.1 ∧ q = (base + k, am_cell cA base σ k) := by
  have h1 : k < (am_wl cA base σ).length := (List.getElem?_eq_some_iff.mp h).1
  have h2 : k < σ.1 := by simpa [am_wl] using h1
  rw [am_wl_at h2] at h
  exact ⟨h2, (Option.some.inj h).symm⟩
/-- what may change: the machine's own cells, and what is made -/
def am_A (base sz n0 : Nat) : Nat → Prop := fun q => base ≤ q ∧ (q < base + n0 ∨ sz ≤ q)
theorem am_D (cA : Nat → ClassId) (base sz n0 : Nat) (σ : am_St) (h : σ.1 ≤ n0 ∨ sz = base + n0) : va_D (am_A base sz n0) (am_wl cA base σ) := by
  refine ⟨fun i j p q hi hj e => ?_, fun k q hk => ?_⟩
  · obtain ⟨-, rfl⟩ := am_wl_of hi
    obtain ⟨-, rfl⟩ := am_wl_of hj
    exact Nat.add_left_cancel e
  · obtain ⟨hk1, rfl⟩ := am_wl_of hk
    refine ⟨Nat.le_add_right _ _, ?_⟩
    show base + k < base + n0 ∨ sz ≤ base + k
    omega
/-- one cell is another one -/
theorem am_wl_set {cA : Nat → ClassId} {base : Nat} {σ σ' : am_St} {k : Nat} {E : va_E} (hn : σ'.1 = σ.1) (ho : ∀ a, a ≠ k → am_cell cA base σ' a = am_cell cA base σ a) (he : am_cell cA base σ' k = E) : (am_wl cA base σ).set k (base + k, E) = am_wl cA base σ' := by
  apply List.ext_getElem?
  intro i
  by_cases hi : i < σ.1
  · rw [am_wl_at (σ := σ') (by rw [hn]; exact hi)]
    by_cases hk : k = i
    · subst hk
      rw [List.getElem?_set_self (by simpa [am_wl] using hi), he]
    · rw [List.getElem?_set_ne hk, am_wl_at hi, ho i (fun q => hk q.symm)]
  · rw [List.getElem?_eq_none (by simp [am_wl]; omega), List.getElem?_eq_none (by simp [am_wl]; omega)]
theorem am_cell_o {cA : Nat → ClassId} {base : Nat} {σ σ' : am_St} {a : Nat} (h1 : σ'.2.2.1 a = σ.2.2.1 a) (h2 : σ'.2.2.2.1 a = σ.2.2.2.1 a) (h3 : σ'.2.2.2.2 a = σ.2.2.2.2 a) : am_cell cA base σ' a = am_cell cA base σ a := by
  unfold am_cell
  have e : ∀ c, am_fs base σ' a c = am_fs base σ a c := by
    intro c
    unfold am_fs
    congr 1
    funext j
    unfold am_fv
    rw [h2, h3]
  rw [h1, h2, h3]
  split <;> simp [e]
theorem am_fs_at {base : Nat} {σ : am_St} {k c j : Nat} (h : j < am_nf c) : (am_fs base σ k c)[j]? = some (am_fv base σ k c j) := by
  simp [am_fs, h]
theorem am_fs_len {base : Nat} {σ : am_St} {k c : Nat} : (am_fs base σ k c).length = am_nf c := by simp [am_fs]
theorem am_cell_obj {cA : Nat → ClassId} {base : Nat} {σ : am_St} {k c : Nat} (h : (σ.2.2.1 k).1 = c + 4) : am_cell cA base σ k = .inr (c, am_fs base σ k c) := by
  unfold am_cell
  rw [h]
theorem am_cell_int {cA : Nat → ClassId} {base : Nat} {σ : am_St} {k : Nat} (h : (σ.2.2.1 k).1 = 0) : am_cell cA base σ k = .inl (cA 0, (σ.2.2.1 k).2, .inl (σ.2.2.2.1 k)) := by
  unfold am_cell
  rw [h]
theorem am_cell_byte {cA : Nat → ClassId} {base : Nat} {σ : am_St} {k : Nat} (h : (σ.2.2.1 k).1 = 1) : am_cell cA base σ k = .inl (cA 1, (σ.2.2.1 k).2, .inl (σ.2.2.2.1 k)) := by
  unfold am_cell
  rw [h]
theorem am_cell_r2 {cA : Nat → ClassId} {base : Nat} {σ : am_St} {k : Nat} (h : (σ.2.2.1 k).1 = 2) : am_cell cA base σ k = .inl (cA 2, (σ.2.2.1 k).2, .inr (.inr (.inr (.inr (fun j => (σ.2.2.2.2 k j).map (base + ·)))))) := by
  unfold am_cell
  rw [h]
theorem am_cell_r3 {cA : Nat → ClassId} {base : Nat} {σ : am_St} {k : Nat} (h : (σ.2.2.1 k).1 = 3) : am_cell cA base σ k = .inl (cA 3, (σ.2.2.1 k).2, .inr (.inr (.inr (.inr (fun j => (σ.2.2.2.2 k j).map (base + ·)))))) := by
  unfold am_cell
  rw [h]
/-- a field of ints is written -/
theorem am_wl_sI {cA : Nat → ClassId} {base : Nat} {σ : am_St} {k c j : Nat} {x : Int32} (h : (σ.2.2.1 k).1 = c + 4) (hj : j < am_nf c) (hr : am_isR (am_ty c j) = false) : (am_wl cA base σ).set k (base + k, .inr (c, (am_fs base σ k c).set j (.int x))) = am_wl cA base (am_sI σ k j x) := by
  refine am_wl_set rfl (fun a ha => am_cell_o rfl ?_ rfl) ?_
  · funext b
    simp [am_sI, ha]
  · rw [am_cell_obj (σ := am_sI σ k j x) (c := c) h]
    congr 2
    apply List.ext_getElem?
    intro i
    by_cases hi : i < am_nf c
    · rw [am_fs_at hi]
      by_cases e : j = i
      · subst e
        rw [List.getElem?_set_self (by rw [am_fs_len]; exact hi)]
        simp [am_fv, hr, am_sI]
      · rw [List.getElem?_set_ne e, am_fs_at hi]
        simp [am_fv, am_sI, Ne.symm e]
    · rw [List.getElem?_eq_none (by rw [am_fs_len]; omega), List.getElem?_eq_none (by rw [List.length_set, am_fs_len]; omega)]
theorem am_wl_sR {cA : Nat → ClassId} {base : Nat} {σ : am_St} {k c j : Nat} {x : Option Nat} (h : (σ.2.2.1 k).1 = c + 4) (hj : j < am_nf c) (hr : am_isR (am_ty c j) = true) : (am_wl cA base σ).set k (base + k, .inr (c, (am_fs base σ k c).set j (va_rf (x.map (base + ·))))) = am_wl cA base (am_sR σ k j x) := by
  refine am_wl_set rfl (fun a ha => am_cell_o rfl rfl ?_) ?_
  · funext b
    simp [am_sR, ha]
  · rw [am_cell_obj (σ := am_sR σ k j x) (c := c) h]
    congr 2
    apply List.ext_getElem?
    intro i
    by_cases hi : i < am_nf c
    · rw [am_fs_at hi]
      by_cases e : j = i
      · subst e
        rw [List.getElem?_set_self (by rw [am_fs_len]; exact hi)]
        simp [am_fv, hr, am_sR]
      · rw [List.getElem?_set_ne e, am_fs_at hi]
        simp [am_fv, am_sR, Ne.symm e]
    · rw [List.getElem?_eq_none (by rw [am_fs_len]; omega), List.getElem?_eq_none (by rw [List.length_set, am_fs_len]; omega)]
theorem am_wl_aI {cA : Nat → ClassId} {base : Nat} {σ : am_St} {k j : Nat} {x : Int32} (h : (σ.2.2.1 k).1 = 0) : (am_wl cA base σ).set k (base + k, .inl (cA 0, (σ.2.2.1 k).2, .inl (upd (σ.2.2.2.1 k) j x))) = am_wl cA base (am_sI σ k j x) := by
  refine am_wl_set rfl (fun a ha => am_cell_o rfl ?_ rfl) ?_
  · funext b
    simp [am_sI, ha]
  · rw [am_cell_int (σ := am_sI σ k j x) h]
    congr 4
    funext b
    simp [am_sI, upd]
theorem am_wl_aB {cA : Nat → ClassId} {base : Nat} {σ : am_St} {k j : Nat} {x : Int32} (h : (σ.2.2.1 k).1 = 1) : (am_wl cA base σ).set k (base + k, .inl (cA 1, (σ.2.2.1 k).2, .inl (upd (σ.2.2.2.1 k) j x))) = am_wl cA base (am_sI σ k j x) := by
  refine am_wl_set rfl (fun a ha => am_cell_o rfl ?_ rfl) ?_
  · funext b
    simp [am_sI, ha]
  · rw [am_cell_byte (σ := am_sI σ k j x) h]
    congr 4
    funext b
    simp [am_sI, upd]
theorem am_wl_a2 {cA : Nat → ClassId} {base : Nat} {σ : am_St} {k j x : Nat} (h : (σ.2.2.1 k).1 = 2) : (am_wl cA base σ).set k (base + k, .inl (cA 2, (σ.2.2.1 k).2, .inr (.inr (.inr (.inr (va_up (fun j => (σ.2.2.2.2 k j).map (base + ·)) j (some (base + x)))))))) = am_wl cA base (am_sR σ k j (some x)) := by
  refine am_wl_set rfl (fun a ha => am_cell_o rfl rfl ?_) ?_
  · funext b
    simp [am_sR, ha]
  · rw [am_cell_r2 (σ := am_sR σ k j (some x)) h]
    congr 7
    funext b
    by_cases hb : b = j <;> simp [am_sR, va_up, hb]
theorem am_wl_a3 {cA : Nat → ClassId} {base : Nat} {σ : am_St} {k j x : Nat} (h : (σ.2.2.1 k).1 = 3) : (am_wl cA base σ).set k (base + k, .inl (cA 3, (σ.2.2.1 k).2, .inr (.inr (.inr (.inr (va_up (fun j => (σ.2.2.2.2 k j).map (base + ·)) j (some (base + x)))))))) = am_wl cA base (am_sR σ k j (some x)) := by
  refine am_wl_set rfl (fun a ha => am_cell_o rfl rfl ?_) ?_
  · funext b
    simp [am_sR, ha]
  · rw [am_cell_r3 (σ := am_sR σ k j (some x)) h]
    congr 7
    funext b
    by_cases hb : b = j <;> simp [am_sR, va_up, hb]
theorem am_wl_cp {cA : Nat → ClassId} {base : Nat} {σ : am_St} {s0 sp d0 dp n : Nat} (h : (σ.2.2.1 d0).1 = 0) : (am_wl cA base σ).set d0 (base + d0, .inl (cA 0, (σ.2.2.1 d0).2, .inl (va_cpy (σ.2.2.2.1 s0) (σ.2.2.2.1 d0) sp dp n))) = am_wl cA base (am_cp σ s0 sp d0 dp n) := by
  refine am_wl_set rfl (fun a ha => am_cell_o rfl ?_ rfl) ?_
  · funext b
    simp [am_cp, ha]
  · rw [am_cell_int (σ := am_cp σ s0 sp d0 dp n) h]
    congr 4
    funext b
    simp [am_cp, va_cpy]
/-- a new cell -/
theorem am_wl_al {cA : Nat → ClassId} {base : Nat} {σ : am_St} {t n z : Nat} : am_wl cA base (am_al σ t n z) = am_wl cA base σ ++ [(base + σ.1, am_cell cA base (am_al σ t n z) σ.1)] := by
  unfold am_wl
  rw [show (am_al σ t n z).1 = σ.1 + 1 from rfl, List.range_succ, List.map_append]
  congr 1
  apply List.map_congr_left
  intro k hk
  have hk' : k < σ.1 := List.mem_range.mp hk
  congr 1
  refine am_cell_o ?_ ?_ ?_
  · simp [am_al, Nat.ne_of_lt hk']
  · funext b
    simp [am_al, Nat.ne_of_lt hk']
  · funext b
    simp [am_al, Nat.ne_of_lt hk']
def am_tys (cA : Nat → ClassId) : List (ClassId × FieldType) := [(cA 0, .int), (cA 1, .byte), (cA 2, .object RX4), (cA 3, .object RX7)]
def am_K (D : va_G) (cA : Nat → ClassId) (U : State) : Prop := va_K D vwCl (am_tys cA) U ∧ va_AO RX4 U ∧ va_AO RX7 U
theorem am_K.moved {D : va_G} {cA : Nat → ClassId} {u U : State} (hvm : u.vm.Alike U.vm) (h : am_K D cA u) : am_K D cA U := ⟨va_K.moved hvm h.1, va_AO.moved hvm h.2.1, va_AO.moved hvm h.2.2⟩
def am_P (D : va_G) (cA : Nat → ClassId) (base sz : Nat) (σ : am_St) (U : State) : Prop := U.heap.size = sz ∧ va_P D vwCl (am_wl cA base σ) U.heap ∧ am_K D cA U
def am_Q (D : va_G) (cA : Nat → ClassId) (base sz : Nat) (σ : am_St) (r : Option Value) (σ' : am_St) : Array Value → State → Outcome → State → Prop := fun _ st oc t => oc = .returned (r.map (am_v base)) ∧ am_P D cA base (sz + (σ'.1 - σ.1)) σ' t ∧ va_F (am_A base sz σ.1) st t
def am_rm (d : Nat) (σ σ' : am_St) : Room := { frames := d, cells := σ'.1 - σ.1, slots := σ'.2.1 - σ.2.1, locals := 40 * d }
def am_wd (mi : am_I) : List Cond := .code mi.2.1 mi.2.2.1 mi.2.2.2.1 mi.2.2.2.2.1 :: lw_good
/-- the contract of a run: cells come only where the machine's cells are the last of the heap -/
def am_Met (l : Launch) (D : va_G) (cA : Nat → ClassId) (base sz d : Nat) (mi : am_I) (args : List Value) (σ : am_St) (r : Option Value) (σ' : am_St) : Prop :=
  (σ'.1 ≤ σ.1 ∨ sz = base + σ.1) → Met l mi.2.1 (am_wd mi) (am_rm d σ σ') (va_Pc (args.map (am_v base)) (am_P D cA base sz σ)) (am_Q D cA base sz σ r σ') (σ'.1 - σ.1) (σ'.2.1 - σ.2.1) (am_A base sz σ.1)
/-- the locals -/
def am_lr (base nL : Nat) (lng : Bool) (L : am_L) (ls : Array Slot) : Prop := ls.size = nL ∧ lv_wf ls ∧ (∀ (i : Nat) (v : Value), L[i]? = some (some v) → ls[i]? = some (Slot.val (am_v base v))) ∧ (lng = false → ∀ (i : Nat) (v : Value), L[i]? = some (some v) → v.category = 1)
def am_pr (base : Nat) (L : am_L) : List (Nat × Value) := (List.range L.length).filterMap (fun i => match L[i]? with
  | some (some v) => some (i, am_v base v)
  | _ => none)
theorem am_pr_mem {base : Nat} {L : am_L} {i : Nat} {v : Value} (h : L[i]? = some (some v)) : (i, am_v base v) ∈ am_pr base L := by
  refine List.mem_filterMap.mpr ⟨i, List.mem_range.mpr (List.getElem?_eq_some_iff.mp h).1, ?_⟩
  simp [h]
theorem am_pr_of {base : Nat} {L : am_L} {q : Nat × Value} (h : q ∈ am_pr base L) : ∃ v, L[q.1]? = some (some v) ∧ q.2 = am_v base v := by
  obtain ⟨i, -, hi⟩ := List.mem_filterMap.mp h
  split at hi
  · rename_i v hv
    obtain rfl := Option.some.inj hi
    exact ⟨v, hv, rfl⟩
  · cases hi
theorem am_lr.has {base nL : Nat} {lng : Bool} {L : am_L} {ls : Array Slot} (h : am_lr base nL lng L ls) : lv_has ls nL (am_pr base L) := ⟨h.1, h.2.1, fun q hq => by
  obtain ⟨v, hv, e⟩ := am_pr_of hq
  rw [e]
  exact h.2.2.1 _ _ hv⟩
theorem am_lr.set {base nL : Nat} {L : am_L} {ls ls' : Array Slot} {i : Nat} {v : Value} (h : am_lr base nL false L ls) (hv : v.category = 1) {l' : List (Nat × Value)} (hl' : ∀ q ∈ am_pr base L, q ∈ l') (h' : lv_has ls' nL ((i, am_v base v) :: l'.filter (fun q => !(q.1 == i) && !(q.1 + 1 == i && q.2.category == 2)))) : am_lr base nL false (L.set i (some v)) ls' := by
  refine ⟨h'.1, h'.2.1, fun j w hj => ?_, fun _ j w hj => ?_⟩
  · by_cases e : i = j
    · subst e
      by_cases hlen : i < L.length
      · rw [List.getElem?_set_self hlen] at hj
        cases hj
        exact h'.2.2 (i, am_v base v) List.mem_cons_self
      · rw [List.getElem?_eq_none (by rw [List.length_set]; omega)] at hj
        cases hj
    · rw [List.getElem?_set_ne e] at hj
      refine h'.2.2 (j, am_v base w) (List.mem_cons_of_mem _ (List.mem_filter.mpr ⟨hl' _ (am_pr_mem hj), ?_⟩))
      have h1 := h.2.2.2 rfl j w hj
      simp [am_v_cat, h1, Ne.symm e]
  · by_cases e : i = j
    · subst e
      by_cases hlen : i < L.length
      · rw [List.getElem?_set_self hlen] at hj
        cases hj
        exact hv
      · rw [List.getElem?_eq_none (by rw [List.length_set]; omega)] at hj
        cases hj
    · rw [List.getElem?_set_ne e] at hj
      exact h.2.2.2 rfl j w hj
