section LW2
variable {p : Program} {l : Launch} {e : Env} {s : State} {m : MethodId} {below : List Frame} {meth : Method} {c : Code} {H : Heap} {locs : List Loc} {Q : State → Prop} {cells slots : Nat} {ls : Array Slot} {rest : List Value}
variable {D : va_G} {cA : Nat → ClassId} {cJ : ClassId} {base q b : Nat} {σ σ1 : am_St} {f : Nat → Int64} {pc : Nat}
/-- a call that the law makes -/
theorem lw_call {idx k : Nat} {mi : am_I} {is : List Int32} {r : Int32} (hC : lw_Cx p l s m meth c D cA cJ base b) (hd : decode code pc = .ok (.invokevirtual idx, 3)) (hm : am_mth 13 idx 0 = some mi) (hn : is.length = mi.2.2.2.2.2.1) (hk : g_o σ k mi.1) (hrun : am_run 2000 mi (.ref k :: is.map Value.int) σ = some (some (.int r), σ1)) (hsm : lw_sm σ σ1) (hls : ls.size = 7) (hcat : (rest.map fun v => v.category).sum ≤ 8) (hc : cells ≤ 600002) (hs : slots ≤ 7302232)
    (hV : lw_V s D cA cJ base q σ f H locs) (kk : ∀ (H1 : Heap) (locs1 : List Loc), lw_V s D cA cJ base q σ1 f H1 locs1 → W p l e room_1 s m #[Value.ref b] below meth c H1 locs1 cells slots Q (F0 m (pc + 3) ls (.int r :: rest))) :
    W p l e room_1 s m #[Value.ref b] below meth c H locs cells slots Q (F0 m pc ls ((is.map Value.int).reverse ++ .ref (base + k) :: rest)) := by
  obtain ⟨hx, hb, hr, hml, hown, hts, hlk, hK, hJ, hsz, hfl, hgv⟩ := hC
  obtain ⟨hP, hq, hqb, hS⟩ := hV
  have hg : ∀ w ∈ lw_good, w.before #[Value.ref b] s = true := fun w hw => hts w (List.mem_filter.mp hw).1
  obtain ⟨hgd, hl, hi, hv, -, -⟩ := am_mth_ok hm
  obtain ⟨w1, w2, h13⟩ := hv rfl
  obtain ⟨hM0, hm20⟩ := am_sound l D cA base 2000 mi _ _ _ _ hgd hrun
  have hM := hM0 H.size (Or.inl (by rw [hsm.1]; exact Nat.le_refl _))
  have hcn : mi.2.1.cls = am_Rn mi.1 := by
    have ho := hgd.2
    simp only [am_okI, Bool.and_eq_true, decide_eq_true_eq, beq_iff_eq] at ho
    exact ho.1.1.1.1
  have hmap : (is.map Value.int).map (am_v base) = is.map Value.int := by
    rw [List.map_map]
    rfl
  have hqlt : q < H.size := (Array.getElem?_eq_some_iff.mp hq).1
  have hPc : ∀ U : State, U.heap = H → s.WarmedH U.vm → va_Pc ((Value.ref k :: is.map Value.int).map (am_v base)) (am_P D cA base H.size σ) (Value.ref (base + k) :: is.map Value.int).toArray U := fun U hU hW => ⟨by rw [List.map_cons, hmap]; rfl, by rw [hU], by rw [hU]; exact hP, am_K.moved hW.alike hK⟩
  have hrun2 := va_runV (p := p) (e := e) (below := below) (meth := meth) (locs := locs) (cells := cells) (slots := slots) (C := am_Rn mi.1) (b := base + k) (As := is.map Value.int) (rest := rest) (g := F0 m pc ls ((is.map Value.int).reverse ++ .ref (base + k) :: rest)) (R := room_1) (n := mi.2.2.2.2.2.1) (index := idx) (own := RL) (Ts := lw_good) (cc := code) (nL := 7) ⟨hx, hb, hml, hown, hg⟩ hM ⟨am_callB hg (d := 2000) (by decide) (by decide) hgd hm20 hl hi, hg _ w1, by rw [← hcn]; exact hg _ w2⟩ ⟨am_Pblind, va_recv hK.1 hP (am_cl_ok mi.1 h13) (by rw [am_wl_at hk.1, am_cell_obj hk.2]), hPc⟩ rfl (by rw [List.length_map]; exact hn) hls rfl (lv_room hcat) hd ⟨by show cells + (σ1.1 - σ.1) ≤ 600002; rw [hsm.1]; omega, by show slots + (σ1.2.1 - σ.2.1) ≤ 7302232; rw [hsm.2.1]; omega⟩
  intro T hT Y
  obtain ⟨v, st₀, t, T', Lo, h0, Y', hLo, e1, e2, ⟨hv', ⟨hsz1, hP1, -⟩, hF1, hF2⟩, st⟩ := hrun2 T hT Y
  have hv2 : v = some (.int r) := by cases hv'; rfl
  subst hv2
  rw [h0] at hF1 hF2
  have hnA : ¬ am_A base H.size σ.1 q := fun z => by
    rcases z.2 with z | z
    · omega
    · omega
  have hS1 : va_S (fun a => base ≤ a) s.heap T'.heap (locs ++ Lo) := ⟨Nat.le_trans hS.1 (by rw [e1]; exact hF1), fun a h1 h2 => by rw [e1, hF2 a (Nat.lt_of_lt_of_le h1 hS.1) (fun z => h2 z.1)]; exact hS.2.1 a h1 h2, fun a ha => by
      rcases List.mem_append.mp ha with h | h
      · exact hS.2.2 a h
      · exact (hLo a h).1⟩
  have k1 := kk T'.heap (locs ++ Lo) ⟨by rw [e1]; exact hP1, by rw [e1, hF2 q hqlt hnA]; exact hq, by rw [hsm.1]; exact hqb, hS1⟩
  rw [show σ1.1 - σ.1 = 0 by rw [hsm.1]; omega, show σ1.2.1 - σ.2.1 = 0 by rw [hsm.2.1]; omega] at Y'
  obtain ⟨t2, a1, b1⟩ := k1 T' rfl Y'
  exact ⟨t2, st t2 a1, b1⟩
end LW2
/-- what an operation must be: both answer alike, and it goes on well -/
def lw_op (I' : am_St → Prop) (σ : am_St) (mc mm : am_I) (is : List Int32) : Prop := ∃ r σ1 σ2, am_run 2000 mc (.ref 0 :: is.map Value.int) σ = some (some (.int r), σ1) ∧ am_run 2000 mm (.ref 161 :: is.map Value.int) σ1 = some (some (.int r), σ2) ∧ lw_sm σ σ1 ∧ lw_sm σ1 σ2 ∧ I' σ2
def lw_st (I' : am_St → Prop) (σ : am_St) (x y : Int32) : Prop := ((∃ r, am_run 1900 mX11_step [.ref 0, .int x, .int y] σ = some (some (.int r), σ)) ∨ lw_thr σ x y) ∧
  (∀ r, am_run 1900 mX11_step [.ref 0, .int x, .int y] σ = some (some (.int r), σ) → ∃ σ2 σ3, am_run 2000 mX12_step (.ref 161 :: [x, y].map Value.int) σ = some (some (.int r), σ2) ∧ am_run 2000 mX12_thrown (.ref 161 :: ([] : List Int32).map Value.int) σ2 = some (some (.int 0), σ3) ∧ lw_sm σ σ2 ∧ lw_sm σ2 σ3 ∧ I' σ3) ∧
  (lw_thr σ x y → ∃ r σ2 σ3, am_run 2000 mX12_step (.ref 161 :: [x, y].map Value.int) σ = some (some (.int r), σ2) ∧ am_run 2000 mX12_thrown (.ref 161 :: ([] : List Int32).map Value.int) σ2 = some (some (.int 1), σ3) ∧ lw_sm σ σ2 ∧ lw_sm σ2 σ3 ∧ I' σ3)
/-- the shapes that every state has -/
def lw_sh (σ : am_St) : Prop := σ.1 = 194 ∧ (∀ k, k < 194 → σ.2.2.1 k = kk_SH.getD k (0, 0)) ∧ g_R σ 0 5 = some 102
theorem lw_sh_o {σ : am_St} (h : lw_sh σ) {k c : Nat} (hk : k < 194) (hc : (kk_SH.getD k (0, 0)).1 = c + 4) : g_o σ k c := ⟨by rw [h.1]; exact hk, by rw [h.2.1 k hk]; exact hc⟩
theorem lw_sm_o {σ σ1 : am_St} (h : lw_sm σ σ1) {k c : Nat} (hk : g_o σ k c) : g_o σ1 k c := ⟨by rw [h.1]; exact hk.1, by rw [h.2.2]; exact hk.2⟩
