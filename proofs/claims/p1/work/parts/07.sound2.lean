section AMS
variable {p : Program} {l : Launch} {e : Env} {R : Room} {s : State} {m : MethodId} {args : Array Value} {below : List Frame} {meth : Method} {c : Code} {H : Heap} {locs : List Loc} {cells slots : Nat} {Q : State → Prop}
variable {D : va_G} {cA : Nat → ClassId} {base sz n0 z0 nE zE d : Nat} {mi : am_I} {pc : Nat} {L : am_L} {S : List Value} {σ : am_St} {ls : Array Slot} {X : am_N}
theorem am_size {g : JFrame} (k : H.size ≤ s.heap.size + cells → W p l e R s m args below meth c H locs cells slots Q g) : W p l e R s m args below meth c H locs cells slots Q g := fun T hT Y => k (by rw [← hT]; exact Y.heapSize) T hT Y
/-- what stands over the whole walk of a method -/
def am_Cx (p : Program) (R : Room) (s : State) (m : MethodId) (args : Array Value) (meth : Method) (c : Code) (D : va_G) (cA : Nat → ClassId) (base sz n0 z0 nE zE d : Nat) (mi : am_I) : Prop :=
  p.tables.exec = Jvm.exec ∧ c.code = mi.2.2.1 ∧ meth.sig.returnType = mi.2.2.2.2.1 ∧ c.maxLocals = mi.2.2.2.1 ∧ s.vm.findClass (am_Rn mi.1) = some m.cls ∧ (∀ w ∈ lw_good, w.before args s = true) ∧ meth.locks = false ∧ meth.name = mi.2.1.name ∧ am_K D cA s ∧ (s.heap.size = sz ∧ (nE ≤ n0 ∨ sz = base + n0)) ∧ d + 1 ≤ R.frames ∧ 40 * (d + 1) ≤ R.locals ∧ nE - n0 ≤ R.cells ∧ zE - z0 ≤ R.slots
def am_Pt (s : State) (D : va_G) (cA : Nat → ClassId) (base sz n0 : Nat) (mi : am_I) (σ : am_St) (L : am_L) (H : Heap) (locs : List Loc) (ls : Array Slot) : Prop :=
  va_P D vwCl (am_wl cA base σ) H ∧ va_S (am_A base sz n0) s.heap H locs ∧ am_lr base mi.2.2.2.1 mi.2.2.2.2.2.2 L ls
/-- from the next point on it goes well -/
def am_Wt (p : Program) (l : Launch) (e : Env) (R : Room) (s : State) (m : MethodId) (args : Array Value) (below : List Frame) (meth : Method) (c : Code) (D : va_G) (cA : Nat → ClassId) (base sz n0 z0 : Nat) (mi : am_I) (Q : State → Prop) (pc : Nat) (L : am_L) (S : List Value) (σ : am_St) : Prop :=
  ∀ (H : Heap) (locs : List Loc) (ls : Array Slot), am_Pt s D cA base sz n0 mi σ L H locs ls → W p l e R s m args below meth c H locs (σ.1 - n0) (σ.2.1 - z0) Q (F0 m pc ls (S.map (am_v base)))
def am_Wn (p : Program) (l : Launch) (e : Env) (R : Room) (s : State) (m : MethodId) (args : Array Value) (below : List Frame) (meth : Method) (c : Code) (D : va_G) (cA : Nat → ClassId) (base sz n0 z0 : Nat) (mi : am_I) (Q : State → Prop) (X : am_N) : Prop :=
  match X with
  | .inl (pc, L, S, σ) => am_Wt p l e R s m args below meth c D cA base sz n0 z0 mi Q pc L S σ
  | .inr _ => True
theorem am_nx_k (h : am_nx pc L S σ = some X) (hk : am_Wn p l e R s m args below meth c D cA base sz n0 z0 mi Q X) : am_Wt p l e R s m args below meth c D cA base sz n0 z0 mi Q pc L S σ := by
  obtain rfl := Option.some.inj h
  exact hk
theorem am_jp_k {off : Int} (h : am_jp pc off L S σ = some X) (hk : am_Wn p l e R s m args below meth c D cA base sz n0 z0 mi Q X) : ∃ t : Nat, (pc : Int) + off = (t : Int) ∧ am_Wt p l e R s m args below meth c D cA base sz n0 z0 mi Q t L S σ := by
  unfold am_jp at h
  split at h
  · rename_i h0
    obtain rfl := Option.some.inj h
    exact ⟨_, (Int.toNat_of_nonneg h0).symm, hk⟩
  · cases h
theorem am_ld_at {v : Value} {i : Nat} (h : am_ld L i = v) (hv : v ≠ .double 0) : L[i]? = some (some v) := by
  unfold am_ld at h
  split at h
  · rename_i w hw
    rw [hw, h]
  · exact absurd h.symm hv
/-- arithmetic and the stack -/
theorem am_s_ar {ins : Instr} (hC : am_Cx p R s m args meth c D cA base sz n0 z0 nE zE d mi) (hd : decode mi.2.2.1 pc = .ok (ins, 1)) (h : am_ar ins pc L S σ = some X) (hk : am_Wn p l e R s m args below meth c D cA base sz n0 z0 mi Q X) (hp : am_Pt s D cA base sz n0 mi σ L H locs ls) : W p l e R s m args below meth c H locs (σ.1 - n0) (σ.2.1 - z0) Q (F0 m pc ls (S.map (am_v base))) := by
  obtain ⟨hx, hb, -⟩ := hC
  unfold am_ar at h
  split at h
  · exact lv_iadd hx hb hd (am_nx_k h hk _ _ _ hp)
  · exact lv_isub hx hb hd (am_nx_k h hk _ _ _ hp)
  · exact lv_imul hx hb hd (am_nx_k h hk _ _ _ hp)
  · split at h
    · cases h
    · rename_i hz
      exact lv_idiv hx hb hd hz (am_nx_k h hk _ _ _ hp)
  · split at h
    · cases h
    · rename_i hz
      exact lv_irem hx hb hd hz (am_nx_k h hk _ _ _ hp)
  · exact lv_iand hx hb hd (am_nx_k h hk _ _ _ hp)
  · exact lv_ishr hx hb hd (am_nx_k h hk _ _ _ hp)
  · exact lv_i2l hx hb hd rfl (am_nx_k h hk _ _ _ hp)
  · exact lv_i2b hx hb hd rfl (am_nx_k h hk _ _ _ hp)
  · exact W.lcmp hx hb hd (am_nx_k h hk _ _ _ hp)
  · split at h
    · rename_i hv
      exact lv_dup hx hb hd (by rw [am_v_cat]; exact hv) (am_nx_k h hk _ _ _ hp)
    · cases h
  · split at h
    · rename_i hv
      exact lv_pop hx hb hd (by rw [am_v_cat]; exact hv) (am_nx_k h hk _ _ _ hp)
    · cases h
  · split at h
    · rename_i hv
      exact lv_dup2_11 hx hb hd (by rw [am_v_cat]; exact hv.1) (by rw [am_v_cat]; exact hv.2) (am_nx_k h hk _ _ _ hp)
    · cases h
  · exact lv_null hx hb hd (am_nx_k h hk _ _ _ hp)
  · cases h
theorem am_s_lds {n len i : Nat} (hC : am_Cx p R s m args meth c D cA base sz n0 z0 nE zE d mi) (hd : (n = 0 ∧ ((∃ k : Fin 4, (k : Nat) = i ∧ len = 1 ∧ decode mi.2.2.1 pc = .ok (.iload_n k, 1)) ∨ (len = 2 ∧ decode mi.2.2.1 pc = .ok (.iload i, 2)))) ∨ (n = 1 ∧ ((∃ k : Fin 4, (k : Nat) = i ∧ len = 1 ∧ decode mi.2.2.1 pc = .ok (.lload_n k, 1)) ∨ (len = 2 ∧ decode mi.2.2.1 pc = .ok (.lload i, 2)))) ∨ (n = 2 ∧ ((∃ k : Fin 4, (k : Nat) = i ∧ len = 1 ∧ decode mi.2.2.1 pc = .ok (.aload_n k, 1)) ∨ (len = 2 ∧ decode mi.2.2.1 pc = .ok (.aload i, 2))))) (h : am_lds n len pc i L S σ = some X) (hk : am_Wn p l e R s m args below meth c D cA base sz n0 z0 mi Q X) (hp : am_Pt s D cA base sz n0 mi σ L H locs ls) : W p l e R s m args below meth c H locs (σ.1 - n0) (σ.2.1 - z0) Q (F0 m pc ls (S.map (am_v base))) := by
  obtain ⟨hx, hb, -⟩ := hC
  unfold am_lds at h
  split at h
  · rename_i x hv
    have hl := hp.2.2.2.2.1 _ _ (am_ld_at hv (fun q => by cases q))
    rcases hd with ⟨-, ⟨k, hi, rfl, hd⟩ | ⟨rfl, hd⟩⟩ | ⟨q, -⟩ | ⟨q, -⟩
    · exact lv_iload_n hx hb hd hi hl (am_nx_k h hk _ _ _ hp)
    · exact lv_iload hx hb hd hl (am_nx_k h hk _ _ _ hp)
    · cases q
    · cases q
  · rename_i x hv
    have hl := hp.2.2.2.2.1 _ _ (am_ld_at hv (fun q => by cases q))
    rcases hd with ⟨q, -⟩ | ⟨-, ⟨k, hi, rfl, hd⟩ | ⟨rfl, hd⟩⟩ | ⟨q, -⟩
    · cases q
    · exact lv_lload_n hx hb hd hi hl (am_nx_k h hk _ _ _ hp)
    · exact lv_lload hx hb hd hl (am_nx_k h hk _ _ _ hp)
    · cases q
  · rename_i x hv
    have hl := hp.2.2.2.2.1 _ _ (am_ld_at hv (fun q => by cases q))
    rcases hd with ⟨q, -⟩ | ⟨q, -⟩ | ⟨-, ⟨k, hi, rfl, hd⟩ | ⟨rfl, hd⟩⟩
    · cases q
    · cases q
    · exact lv_aload_n hx hb hd hi hl (am_nx_k h hk _ _ _ hp)
    · exact lv_aload hx hb hd hl (am_nx_k h hk _ _ _ hp)
  · rename_i hv
    have hl := hp.2.2.2.2.1 _ _ (am_ld_at hv (fun q => by cases q))
    rcases hd with ⟨q, -⟩ | ⟨q, -⟩ | ⟨-, ⟨k, hi, rfl, hd⟩ | ⟨rfl, hd⟩⟩
    · cases q
    · cases q
    · exact lv_aload_nN hx hb hd hi hl (am_nx_k h hk _ _ _ hp)
    · exact lv_aloadN hx hb hd hl (am_nx_k h hk _ _ _ hp)
  · rename_i x hv
    have hl := hp.2.2.2.2.1 _ _ (am_ld_at hv (fun q => by cases q))
    rcases hd with ⟨q, -⟩ | ⟨q, -⟩ | ⟨-, ⟨k, hi, rfl, hd⟩ | ⟨rfl, hd⟩⟩
    · cases q
    · cases q
    · exact lv_aload_n hx hb hd hi hl (am_nx_k h hk _ _ _ hp)
    · exact lv_aload hx hb hd hl (am_nx_k h hk _ _ _ hp)
  · cases h
theorem am_stp_k {i : Nat} {v : Value} (h : am_stp mi pc i L v S σ = some X) (hc : v.category = 1) (hk : am_Wn p l e R s m args below meth c D cA base sz n0 z0 mi Q X) (hp : am_Pt s D cA base sz n0 mi σ L H locs ls) :
    i < mi.2.2.2.1 ∧ ∀ (l' : List (Nat × Value)) (ls' : Array Slot), (∀ q ∈ am_pr base L, q ∈ l') → lv_has ls' mi.2.2.2.1 ((i, am_v base v) :: l'.filter (fun q => !(q.1 == i) && !(q.1 + 1 == i && q.2.category == 2))) → W p l e R s m args below meth c H locs (σ.1 - n0) (σ.2.1 - z0) Q (F0 m pc ls' (S.map (am_v base))) := by
  unfold am_stp at h
  split at h
  · rename_i h0
    refine ⟨h0.2.1, fun l' ls' hl' h' => am_nx_k h hk _ _ _ ⟨hp.1, hp.2.1, ?_⟩⟩
    have hl := hp.2.2
    rw [h0.1] at hl ⊢
    exact hl.set hc hl' h'
  · cases h
theorem am_s_sts {n len i : Nat} (hC : am_Cx p R s m args meth c D cA base sz n0 z0 nE zE d mi) (hd : (n = 0 ∧ ((∃ k : Fin 4, (k : Nat) = i ∧ len = 1 ∧ decode mi.2.2.1 pc = .ok (.istore_n k, 1)) ∨ (len = 2 ∧ decode mi.2.2.1 pc = .ok (.istore i, 2)))) ∨ (n = 2 ∧ ((∃ k : Fin 4, (k : Nat) = i ∧ len = 1 ∧ decode mi.2.2.1 pc = .ok (.astore_n k, 1)) ∨ (len = 2 ∧ decode mi.2.2.1 pc = .ok (.astore i, 2))))) (h : am_sts n len mi pc i L S σ = some X) (hk : am_Wn p l e R s m args below meth c D cA base sz n0 z0 mi Q X) (hp : am_Pt s D cA base sz n0 mi σ L H locs ls) : W p l e R s m args below meth c H locs (σ.1 - n0) (σ.2.1 - z0) Q (F0 m pc ls (S.map (am_v base))) := by
  obtain ⟨hx, hb, -⟩ := hC
  unfold am_sts at h
  split at h
  · obtain ⟨hi', kk⟩ := am_stp_k h rfl hk hp
    rcases hd with ⟨-, ⟨k, hi, rfl, hd⟩ | ⟨rfl, hd⟩⟩ | ⟨q, -⟩
    · exact lv_istore_n hx hb hd hi hp.2.2.has hi' rfl (fun ls' h' => kk _ ls' (fun _ q => q) h')
    · exact lv_istore hx hb hd hp.2.2.has hi' rfl (fun ls' h' => kk _ ls' (fun _ q => q) h')
    · cases q
  · obtain ⟨hi', kk⟩ := am_stp_k h rfl hk hp
    rcases hd with ⟨q, -⟩ | ⟨-, ⟨k, hi, rfl, hd⟩ | ⟨rfl, hd⟩⟩
    · cases q
    · exact lv_astore_n hx hb hd hi hp.2.2.has hi' rfl (fun ls' h' => kk _ ls' (fun _ q => q) h')
    · exact lv_astore hx hb hd hp.2.2.has hi' rfl (fun ls' h' => kk _ ls' (fun _ q => q) h')
  · obtain ⟨hi', kk⟩ := am_stp_k h rfl hk hp
    rcases hd with ⟨q, -⟩ | ⟨-, ⟨k, hi, rfl, hd⟩ | ⟨rfl, hd⟩⟩
    · cases q
    · exact lv_astore_nN hx hb hd hi hp.2.2.has hi' rfl (fun ls' h' => kk _ ls' (fun _ q => q) h')
    · exact lv_astoreN hx hb hd hp.2.2.has hi' rfl (fun ls' h' => kk _ ls' (fun _ q => q) h')
  · obtain ⟨hi', kk⟩ := am_stp_k h rfl hk hp
    rcases hd with ⟨q, -⟩ | ⟨-, ⟨k, hi, rfl, hd⟩ | ⟨rfl, hd⟩⟩
    · cases q
    · exact lv_astore_n hx hb hd hi hp.2.2.has hi' rfl (fun ls' h' => kk _ ls' (fun _ q => q) h')
    · exact lv_astore hx hb hd hp.2.2.has hi' rfl (fun ls' h' => kk _ ls' (fun _ q => q) h')
  · cases h
theorem am_s_iinc {i : Nat} {n : Int} {x : Int32} (hC : am_Cx p R s m args meth c D cA base sz n0 z0 nE zE d mi) (hd : decode mi.2.2.1 pc = .ok (.iinc i n, 3)) (hv : am_ld L i = .int x) (h : am_stp mi (pc + 3) i L (.int (x + Int32.ofInt n)) S σ = some X) (hk : am_Wn p l e R s m args below meth c D cA base sz n0 z0 mi Q X) (hp : am_Pt s D cA base sz n0 mi σ L H locs ls) : W p l e R s m args below meth c H locs (σ.1 - n0) (σ.2.1 - z0) Q (F0 m pc ls (S.map (am_v base))) := by
  obtain ⟨hx, hb, -⟩ := hC
  have hl := hp.2.2.2.2.1 _ _ (am_ld_at hv (fun q => by cases q))
  have hh : lv_has ls mi.2.2.2.1 ((i, .int x) :: am_pr base L) := ⟨hp.2.2.1, hp.2.2.2.1, fun q hq => by
    rcases List.mem_cons.mp hq with rfl | hq
    · exact hl
    · exact hp.2.2.has.2.2 q hq⟩
  obtain ⟨hi', kk⟩ := am_stp_k h rfl hk hp
  exact lv_iinc hx hb hd hh (k := 0) rfl rfl hi' rfl (fun ls' h' => kk _ ls' (fun _ q => List.mem_cons_of_mem _ q) h')
theorem am_s_bra {ins : Instr} {len : Nat} (hC : am_Cx p R s m args meth c D cA base sz n0 z0 nE zE d mi) (hd : decode mi.2.2.1 pc = .ok (ins, len)) (hlen : (∃ a b, ins = .ifCond a b) ∨ (∃ a b, ins = .if_icmp a b) ∨ (∃ b, ins = .ifnull b) ∨ (∃ b, ins = .goto b) → len = 3) (h : am_bra ins pc L S σ = some X) (hk : am_Wn p l e R s m args below meth c D cA base sz n0 z0 mi Q X) (hp : am_Pt s D cA base sz n0 mi σ L H locs ls) : W p l e R s m args below meth c H locs (σ.1 - n0) (σ.2.1 - z0) Q (F0 m pc ls (S.map (am_v base))) := by
  obtain ⟨hx, hb, -⟩ := hC
  unfold am_bra at h
  split at h
  · rename_i cc off x S'
    obtain rfl := hlen (Or.inl ⟨_, _, rfl⟩)
    by_cases hq : am_cmp cc x 0 = true
    · rw [if_pos hq] at h
      obtain ⟨t, ht, kk⟩ := am_jp_k h hk
      have kk := kk _ _ _ hp
      cases cc <;> simp only [am_cmp, decide_eq_true_eq] at hq
      · exact lv_if_eq hx hb hd ht (fun _ => kk) (fun z => absurd hq z)
      · exact lv_if_ne hx hb hd ht (fun _ => kk) (fun z => absurd z hq)
      · exact lv_if_lt hx hb hd ht (fun _ => kk) (fun z => absurd hq z)
      · exact lv_if_ge hx hb hd ht (fun _ => kk) (fun z => absurd hq z)
      · exact lv_if_gt hx hb hd ht (fun _ => kk) (fun z => absurd hq z)
      · exact lv_if_le hx hb hd ht (fun _ => kk) (fun z => absurd hq z)
    · rw [if_neg hq] at h
      split at h
      · rename_i h0
        have kk := am_nx_k h hk _ _ _ hp
        have ht : (pc : Int) + off = ((((pc : Int) + off).toNat : Nat) : Int) := (Int.toNat_of_nonneg h0).symm
        cases cc <;> simp only [am_cmp, decide_eq_true_eq] at hq
        · exact lv_if_eq hx hb hd ht (fun z => absurd z hq) (fun _ => kk)
        · exact lv_if_ne hx hb hd ht (fun z => absurd z hq) (fun _ => kk)
        · exact lv_if_lt hx hb hd ht (fun z => absurd z hq) (fun _ => kk)
        · exact lv_if_ge hx hb hd ht (fun z => absurd z hq) (fun _ => kk)
        · exact lv_if_gt hx hb hd ht (fun z => absurd z hq) (fun _ => kk)
        · exact lv_if_le hx hb hd ht (fun z => absurd z hq) (fun _ => kk)
      · cases h
  · rename_i cc off y x S'
    obtain rfl := hlen (Or.inr (Or.inl ⟨_, _, rfl⟩))
    by_cases hq : am_cmp cc x y = true
    · rw [if_pos hq] at h
      obtain ⟨t, ht, kk⟩ := am_jp_k h hk
      have kk := kk _ _ _ hp
      cases cc <;> simp only [am_cmp, decide_eq_true_eq] at hq
      · exact lv_icmp_eq hx hb hd ht (fun _ => kk) (fun z => absurd hq z)
      · exact lv_icmp_ne hx hb hd ht (fun _ => kk) (fun z => absurd z hq)
      · exact lv_icmp_lt hx hb hd ht (fun _ => kk) (fun z => absurd hq z)
      · exact lv_icmp_ge hx hb hd ht (fun _ => kk) (fun z => absurd hq z)
      · exact lv_icmp_gt hx hb hd ht (fun _ => kk) (fun z => absurd hq z)
      · exact lv_icmp_le hx hb hd ht (fun _ => kk) (fun z => absurd hq z)
    · rw [if_neg hq] at h
      split at h
      · rename_i h0
        have kk := am_nx_k h hk _ _ _ hp
        have ht : (pc : Int) + off = ((((pc : Int) + off).toNat : Nat) : Int) := (Int.toNat_of_nonneg h0).symm
        cases cc <;> simp only [am_cmp, decide_eq_true_eq] at hq
        · exact lv_icmp_eq hx hb hd ht (fun z => absurd z hq) (fun _ => kk)
        · exact lv_icmp_ne hx hb hd ht (fun z => absurd z hq) (fun _ => kk)
        · exact lv_icmp_lt hx hb hd ht (fun z => absurd z hq) (fun _ => kk)
        · exact lv_icmp_ge hx hb hd ht (fun z => absurd z hq) (fun _ => kk)
        · exact lv_icmp_gt hx hb hd ht (fun z => absurd z hq) (fun _ => kk)
        · exact lv_icmp_le hx hb hd ht (fun z => absurd z hq) (fun _ => kk)
      · cases h
  · obtain rfl := hlen (Or.inr (Or.inr (Or.inl ⟨_, rfl⟩)))
    exact lv_ifnull hx hb hd (am_nx_k h hk _ _ _ hp)
  · obtain rfl := hlen (Or.inr (Or.inr (Or.inl ⟨_, rfl⟩)))
    obtain ⟨t, ht, kk⟩ := am_jp_k h hk
    exact lv_ifnullN hx hb hd ht (kk _ _ _ hp)
  · obtain rfl := hlen (Or.inr (Or.inr (Or.inr ⟨_, rfl⟩)))
    obtain ⟨t, ht, kk⟩ := am_jp_k h hk
    exact lv_goto hx hb hd ht (kk _ _ _ hp)
  · split at h
    · rename_i hq
      obtain ⟨t, ht, kk⟩ := am_jp_k h hk
      exact lv_tableOut hx hb hd hq ht (kk _ _ _ hp)
    · rename_i hq
      split at h
      · rename_i off ho
        obtain ⟨t, ht, kk⟩ := am_jp_k h hk
        exact lv_tableIn hx hb hd (fun z => hq (Or.inl z)) (fun z => hq (Or.inr z)) ho ht (kk _ _ _ hp)
      · cases h
  · split at h
    · rename_i hq
      obtain ⟨t, ht, kk⟩ := am_jp_k h hk
      exact lv_lookup hx hb hd hq rfl ht (kk _ _ _ hp)
    · cases h
  · cases h
/-- getfield, putfield -/
theorem am_fld_ok {own idx ci j : Nat} (h : am_fld own idx = some (ci, j)) : Cond.fieldLink (am_Rn own) idx (am_Rn ci) (am_T ci j).2.1 (am_T ci j).2.2.1 ∈ lw_good ∧ j < am_nf ci ∧ (am_T ci j).1 = am_Rn ci ∧ ci < 13 := by
  unfold am_fld at h
  obtain ⟨e, he, h1⟩ := Option.map_eq_some_iff.mp h
  have hm := List.mem_of_find?_eq_some he
  have hf := List.find?_some he
  simp only [Bool.and_eq_true, beq_iff_eq] at hf
  have hk := List.all_eq_true.mp am_okf_all e hm
  simp only [am_okf, Bool.and_eq_true, decide_eq_true_eq, beq_iff_eq] at hk
  simp only [Prod.mk.injEq] at h1
  rw [hf.1, hf.2, h1.1, h1.2] at hk
  exact ⟨am_at_mem hk.1.1.1, hk.1.1.2, hk.1.2, hk.2⟩
theorem am_s_get {idx : Nat} (hC : am_Cx p R s m args meth c D cA base sz n0 z0 nE zE d mi) (hd : decode mi.2.2.1 pc = .ok (.getfield idx, 3)) (h : am_get mi idx pc L S σ = some X) (hk : am_Wn p l e R s m args below meth c D cA base sz n0 z0 mi Q X) (hp : am_Pt s D cA base sz n0 mi σ L H locs ls) : W p l e R s m args below meth c H locs (σ.1 - n0) (σ.2.1 - z0) Q (F0 m pc ls (S.map (am_v base))) := by
  obtain ⟨hx, hb, -, -, hown, hts, -, -, hK, -⟩ := hC
  unfold am_get at h
  split at h
  · rename_i k rest
    split at h
    · rename_i ci j hf
      split at h
      · rename_i hc
        obtain ⟨hw, hj, hdc, h13⟩ := am_fld_ok hf
        have kk := am_nx_k h hk _ _ _ hp
        refine va_get (D := D) (ci := ci) (C := am_Rn ci) (T := am_T ci) (N := am_nf ci) hx hb hts (am_ws_ok ci h13) hown hK.1 hp.1 k (by rw [am_wl_at hc.1, am_cell_obj hc.2]) (am_cl_ok ci h13) j hj (hts _ hw) (fun x h9 => by rw [← hdc]; exact h9) (am_fs_at hj) hd ?_
        have e : am_v base (if am_isR (am_ty ci j) then va_rf (σ.2.2.2.2 k j) else .int (σ.2.2.2.1 k j)) = am_fv base σ k ci j := by
          unfold am_fv
          split
          · exact am_v_rf _ _
          · rfl
        rw [← e]
        exact kk
      · cases h
    · cases h
  · cases h
theorem am_s_put {idx : Nat} (hC : am_Cx p R s m args meth c D cA base sz n0 z0 nE zE d mi) (hd : decode mi.2.2.1 pc = .ok (.putfield idx, 3)) (h : am_put mi idx pc L S σ = some X) (hk : am_Wn p l e R s m args below meth c D cA base sz n0 z0 mi Q X) (hσ : σ.1 ≤ nE) (hp : am_Pt s D cA base sz n0 mi σ L H locs ls) : W p l e R s m args below meth c H locs (σ.1 - n0) (σ.2.1 - z0) Q (F0 m pc ls (S.map (am_v base))) := by
  obtain ⟨hx, hb, -, -, hown, hts, -, hnm, hK, ⟨-, hal⟩, -⟩ := hC
  have hD := am_D cA base sz n0 σ (by omega)
  have key : ∀ (v : Value) (k ci j : Nat) (rest : List Value) (σ1 : am_St), am_fld mi.1 idx = some (ci, j) → k < σ.1 → (σ.2.2.1 k).1 = ci + 4 → am_fin mi ci j = true → narrow (am_ty ci j) v = v → fits (am_ty ci j) v = true → (am_wl cA base σ).set k (base + k, .inr (ci, (am_fs base σ k ci).set j v)) = am_wl cA base σ1 → σ1.1 = σ.1 → σ1.2.1 = σ.2.1 → am_Wt p l e R s m args below meth c D cA base sz n0 z0 mi Q (pc + 3) L rest σ1 → W p l e R s m args below meth c H locs (σ.1 - n0) (σ.2.1 - z0) Q (F0 m pc ls (v :: .ref (base + k) :: rest.map (am_v base))) := by
    intro v k ci j rest σ1 hf hk1 hk2 hfin hn hfit hset e1 e2 kk
    obtain ⟨hw, hj, hdc, h13⟩ := am_fld_ok hf
    have kk' : ∀ (H1 : Heap) (locs1 : List Loc), va_P D vwCl ((am_wl cA base σ).set k (base + k, .inr (ci, (am_fs base σ k ci).set j v))) H1 → va_D (am_A base sz n0) ((am_wl cA base σ).set k (base + k, .inr (ci, (am_fs base σ k ci).set j v))) → va_S (am_A base sz n0) s.heap H1 locs1 → W p l e R s m args below meth c H1 locs1 (σ.1 - n0) (σ.2.1 - z0) Q (F0 m (pc + 3) ls (rest.map (am_v base))) := by
      intro H1 locs1 hP1 _ hS1
      rw [hset] at hP1
      have := kk H1 locs1 ls ⟨hP1, hS1, hp.2.2⟩
      rw [e1, e2] at this
      exact this
    by_cases hfi : (am_T ci j).2.2.2 = true
    · have hfin2 : mi.2.1.name = "<init>" ∧ mi.1 = ci := by
        simp only [am_fin, hfi, Bool.not_true, Bool.false_or, Bool.and_eq_true, beq_iff_eq] at hfin
        exact hfin
      exact va_putF (D := D) (ci := ci) (C := am_Rn ci) (T := am_T ci) (N := am_nf ci) hx hb hts (am_ws_ok ci h13) (am_ty ci) (am_ty_ok ci h13) (am_nm_ok ci h13) hown hK.1 hp.1 hD hp.2.1 k (by rw [am_wl_at hk1, am_cell_obj hk2]) (am_cl_ok ci h13) j hj (hts _ hw) (fun x h9 => by rw [← hdc]; exact h9) hfi (by rw [hnm]; exact hfin2.1) (by rw [hdc, hfin2.2]) (am_ty_ok ci h13 j hj) hn hfit (by rw [am_fs_len]; exact hj) hd kk'
    · exact va_put (D := D) (ci := ci) (C := am_Rn ci) (T := am_T ci) (N := am_nf ci) hx hb hts (am_ws_ok ci h13) (am_ty ci) (am_ty_ok ci h13) (am_nm_ok ci h13) hown hK.1 hp.1 hD hp.2.1 k (by rw [am_wl_at hk1, am_cell_obj hk2]) (am_cl_ok ci h13) j hj (hts _ hw) (fun x h9 => by rw [← hdc]; exact h9) (by simpa using hfi) (am_ty_ok ci h13 j hj) hn hfit (by rw [am_fs_len]; exact hj) hd kk'
  have hR : ∀ {ty : FieldType} (o : Option Nat), am_isR ty = true → narrow ty (va_rf o) = va_rf o ∧ fits ty (va_rf o) = true := by
    intro ty o ht
    match ty, ht with
    | .object _, _ => cases o <;> exact ⟨rfl, rfl⟩
    | .array _, _ => cases o <;> exact ⟨rfl, rfl⟩
  unfold am_put at h
  split at h
  · rename_i x k rest
    split at h
    · rename_i ci j hf
      split at h
      · rename_i hc
        exact key (.int x) k ci j rest (am_sI σ k j x) hf hc.1 hc.2.1 hc.2.2.1 hc.2.2.2.2.1 hc.2.2.2.2.2 (am_wl_sI hc.2.1 (am_fld_ok hf).2.1 hc.2.2.2.1) rfl rfl (am_nx_k h hk)
      · cases h
    · cases h
  · rename_i x k rest
    split at h
    · rename_i ci j hf
      split at h
      · rename_i hc
        have hq := hR (some (base + x)) hc.2.2.2
        exact key (.ref (base + x)) k ci j rest (am_sR σ k j (some x)) hf hc.1 hc.2.1 hc.2.2.1 hq.1 hq.2 (am_wl_sR (x := some x) hc.2.1 (am_fld_ok hf).2.1 hc.2.2.2) rfl rfl (am_nx_k h hk)
      · cases h
    · cases h
  · rename_i k rest
    split at h
    · rename_i ci j hf
      split at h
      · rename_i hc
        have hq := hR none hc.2.2.2
        exact key .null k ci j rest (am_sR σ k j none) hf hc.1 hc.2.1 hc.2.2.1 hq.1 hq.2 (am_wl_sR (x := none) hc.2.1 (am_fld_ok hf).2.1 hc.2.2.2) rfl rfl (am_nx_k h hk)
      · cases h
    · cases h
  · cases h
theorem am_s_arr {ins : Instr} (hC : am_Cx p R s m args meth c D cA base sz n0 z0 nE zE d mi) (hd : decode mi.2.2.1 pc = .ok (ins, 1)) (h : am_arr ins pc L S σ = some X) (hk : am_Wn p l e R s m args below meth c D cA base sz n0 z0 mi Q X) (hσ : σ.1 ≤ nE) (hp : am_Pt s D cA base sz n0 mi σ L H locs ls) : W p l e R s m args below meth c H locs (σ.1 - n0) (σ.2.1 - z0) Q (F0 m pc ls (S.map (am_v base))) := by
  obtain ⟨hx, hb, -, -, -, -, -, -, hK, ⟨-, hal⟩, -⟩ := hC
  have hD := am_D cA base sz n0 σ (by omega)
  unfold am_arr at h
  split at h
  · split at h
    · rename_i i k rest
      split at h
      · rename_i hc
        exact va_iald hx hb hK.1 hp.1 k 0 (by rw [am_wl_at hc.1, am_cell_int hc.2.1]) rfl hc.2.2 hd (am_nx_k h hk _ _ _ hp)
      · cases h
    · cases h
  · split at h
    · rename_i i k rest
      split at h
      · rename_i hc
        exact va_bald hx hb hK.1 hp.1 k 1 (by rw [am_wl_at hc.1, am_cell_byte hc.2.1]) rfl hc.2.2 hd (am_nx_k h hk _ _ _ hp)
      · cases h
    · cases h
  · split at h
    · rename_i i k rest
      split at h
      · rename_i hc
        have kk := am_nx_k h hk _ _ _ hp
        rw [List.map_cons, am_v_rf] at kk
        rcases hc.2.1 with hq | hq
        · exact va_aldq hx hb hK.1 hp.1 k 2 (by rw [am_wl_at hc.1, am_cell_r2 hq]) rfl hc.2.2 hd kk
        · exact va_aldq hx hb hK.1 hp.1 k 3 (by rw [am_wl_at hc.1, am_cell_r3 hq]) rfl hc.2.2 hd kk
      · cases h
    · cases h
  · split at h
    · rename_i x i k rest
      split at h
      · rename_i hc
        refine va_iast hx hb hK.1 hp.1 hD hp.2.1 k 0 (by rw [am_wl_at hc.1, am_cell_int hc.2.1]) rfl hc.2.2 hd (fun H1 locs1 hP1 _ hS1 => ?_)
        rw [am_wl_aI hc.2.1] at hP1
        exact am_nx_k h hk _ _ _ ⟨hP1, hS1, hp.2.2⟩
      · cases h
    · cases h
  · split at h
    · rename_i x i k rest
      split at h
      · rename_i hc
        refine va_bast hx hb hK.1 hp.1 hD hp.2.1 k 1 (by rw [am_wl_at hc.1, am_cell_byte hc.2.1]) rfl hc.2.2 hd (fun H1 locs1 hP1 _ hS1 => ?_)
        rw [am_wl_aB hc.2.1] at hP1
        exact am_nx_k h hk _ _ _ ⟨hP1, hS1, hp.2.2⟩
      · cases h
    · cases h
  · split at h
    · rename_i x i k rest
      split at h
      · rename_i hc
        rcases hc.2.2.1 with hq | hq
        · refine va_astq hx hb hK.1 hp.1 hD hp.2.1 k 2 x 4 (by rw [am_wl_at hc.1, am_cell_r2 hq.1]) rfl (by rw [am_wl_at hc.2.1, am_cell_obj hq.2]) (am_cl_ok 4 (by decide)) hc.2.2.2 hd (fun H1 locs1 hP1 _ hS1 => ?_)
          rw [am_wl_a2 hq.1] at hP1
          exact am_nx_k h hk _ _ _ ⟨hP1, hS1, hp.2.2⟩
        · refine va_astq hx hb hK.1 hp.1 hD hp.2.1 k 3 x 7 (by rw [am_wl_at hc.1, am_cell_r3 hq.1]) rfl (by rw [am_wl_at hc.2.1, am_cell_obj hq.2]) (am_cl_ok 7 (by decide)) hc.2.2.2 hd (fun H1 locs1 hP1 _ hS1 => ?_)
          rw [am_wl_a3 hq.1] at hP1
          exact am_nx_k h hk _ _ _ ⟨hP1, hS1, hp.2.2⟩
      · cases h
    · cases h
  · split at h
    · rename_i k rest
      split at h
      · rename_i hc
        have kk := am_nx_k h hk _ _ _ hp
        have hq : (σ.2.2.1 k).1 = 0 ∨ (σ.2.2.1 k).1 = 1 ∨ (σ.2.2.1 k).1 = 2 ∨ (σ.2.2.1 k).1 = 3 := by omega
        rcases hq with hq | hq | hq | hq
        · have ha : (am_wl cA base σ)[k]? = some (base + k, .inl (cA 0, (σ.2.2.1 k).2, .inl (σ.2.2.2.1 k))) := by rw [am_wl_at hc.1, am_cell_int hq]
          exact va_alen hx hb hK.1 hp.1 k 0 ha rfl rfl hd kk
        · have ha : (am_wl cA base σ)[k]? = some (base + k, .inl (cA 1, (σ.2.2.1 k).2, .inl (σ.2.2.2.1 k))) := by rw [am_wl_at hc.1, am_cell_byte hq]
          exact va_alen hx hb hK.1 hp.1 k 1 ha rfl rfl hd kk
        · have ha : (am_wl cA base σ)[k]? = some (base + k, .inl (cA 2, (σ.2.2.1 k).2, .inr (.inr (.inr (.inr (fun j => (σ.2.2.2.2 k j).map (base + ·))))))) := by rw [am_wl_at hc.1, am_cell_r2 hq]
          exact va_alen hx hb hK.1 hp.1 k 2 ha rfl rfl hd kk
        · have ha : (am_wl cA base σ)[k]? = some (base + k, .inl (cA 3, (σ.2.2.1 k).2, .inr (.inr (.inr (.inr (fun j => (σ.2.2.2.2 k j).map (base + ·))))))) := by rw [am_wl_at hc.1, am_cell_r3 hq]
          exact va_alen hx hb hK.1 hp.1 k 3 ha rfl rfl hd kk
      · cases h
    · cases h
  · cases h
end AMS
