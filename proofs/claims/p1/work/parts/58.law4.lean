theorem i_new {call : am_I → List Value → am_St → Option (Option Value × am_St)} {mi : am_I} {pc idx ci : Nat} {L : am_L} {S : List Value} {σ : am_St} (h : am_cls mi.1 idx = some ci) : am_ins call mi (.new idx) 3 pc L S σ = am_nx (pc + 3) L (.ref σ.1 :: S) (am_al σ (ci + 4) 0 (am_nf ci)) := by
  show am_mk mi (.new idx) pc L S σ = _
  unfold am_mk
  dsimp only
  rw [h]
theorem i_spec {call : am_I → List Value → am_St → Option (Option Value × am_St)} {mi m2 : am_I} {pc idx b : Nat} {L : am_L} {rest : List Value} {σ σ1 : am_St} (h0 : am_isO mi.1 idx = false) (h : am_mth mi.1 idx 2 = some m2) (hn : m2.2.2.2.2.2.1 = 0) (hc : (rest.map fun v => v.category).sum ≤ 8) (hr : call m2 [.ref b] σ = some (none, σ1)) : am_ins call mi (.invokespecial idx) 3 pc L (.ref b :: rest) σ = am_nx (pc + 3) L rest σ1 := by
  show am_inv call mi 2 idx pc L (.ref b :: rest) σ = _
  simp only [am_inv]
  rw [h0, h]
  simp only [hn, List.drop_zero, List.take_zero, List.reverse_nil, Bool.false_eq_true, if_false]
  unfold am_calls
  rw [if_pos hc, hr]
  rfl
def mL (nm : String) : am_I := (13, ⟨RL, nm, "([I)Z"⟩, code, 7, ret, 1, false)
set_option maxRecDepth 1000000 in
theorem kk_bn : kk_b.1 = 161 := by decide +kernel
set_option maxRecDepth 100000 in
theorem kk_l1 : am_cls 13 8 = some 11 ∧ am_cls 13 16 = some 12 := by decide +kernel
set_option maxRecDepth 100000 in
theorem kk_m1 : am_mth 13 15 2 = some mX11_init := rfl
set_option maxRecDepth 100000 in
theorem kk_m2 : am_mth 13 18 2 = some mX12_init := rfl
theorem kk_o1 : am_isO 13 15 = false ∧ am_isO 13 18 = false := by decide +kernel
theorem kk_r1 : am_run 2000 mX11_init [.ref 0] kk_a = some (none, kk_b) := am_run_le (by decide : 8 ≤ 2000) _ _ _ _ (am_rn_run 8 3000 _ _ _ _ (kk_get_ok kk_b_ok))
theorem kk_r2 : am_run 2000 mX12_init [.ref 161] kk_c = some (none, kk_d) := am_run_le (by decide : 8 ≤ 2000) _ _ _ _ (am_rn_run 8 3000 _ _ _ _ (kk_get_ok kk_d_ok))
theorem kk_walk (nm : String) (b : Nat) : am_wk (am_run 2000) (mL nm) 8 0 [some (.retAddr b), none, none, none, none, none, none] [] kk_s = some (16, [some (.retAddr b), some (.ref 0), some (.ref 161), none, none, none, none], [], kk_d) := by
  refine wk_s dL_law_0 (i_new kk_l1.1) ?_
  refine wk_s dL_law_3 (L' := [some (.retAddr b), none, none, none, none, none, none]) (S' := [.ref 0, .ref 0]) (σ' := kk_a) rfl ?_
  refine wk_s dL_law_4 (i_spec (m2 := mX11_init) (σ1 := kk_b) kk_o1.1 kk_m1 rfl (Nat.le_of_ble_eq_true rfl) kk_r1) ?_
  refine wk_s dL_law_7 (L' := [some (.retAddr b), some (.ref 0), none, none, none, none, none]) (S' := []) (σ' := kk_b) rfl ?_
  refine wk_s dL_law_8 (i_new kk_l1.2) ?_
  rw [kk_bn]
  refine wk_s dL_law_11 (L' := [some (.retAddr b), some (.ref 0), none, none, none, none, none]) (S' := [.ref 161, .ref 161]) (σ' := kk_c) rfl ?_
  refine wk_s dL_law_12 (i_spec (m2 := mX12_init) (σ1 := kk_d) kk_o1.2 kk_m2 rfl (Nat.le_of_ble_eq_true rfl) kk_r2) ?_
  refine wk_s dL_law_15 (L' := [some (.retAddr b), some (.ref 0), some (.ref 161), none, none, none, none]) (S' := []) (σ' := kk_d) rfl ?_
  rfl
theorem kk_n1 : kk_d.1 = 194 := (Prod.mk.inj kk_n).1
theorem kk_n2 : kk_d.2.1 = 1187152 := (Prod.mk.inj kk_n).2
set_option maxRecDepth 100000 in
set_option maxHeartbeats 4000000 in
/-- THE LAW, from its entry, over an invariant of the machine's states -/
theorem lw_start {p : Program} {e : Env} {s : State} {m : MethodId} {below : List Frame} {meth : Method} {c : Code} (l : Launch) (hflags : l.flags = flags0) {b L K : Nat} {xs : Nat → Int32} (hLK : L ≤ 6 * K + 5) (hK5 : K ≤ 512) (Inv : Nat → am_St → Prop) (hsh : ∀ i σ, Inv i σ → lw_sh σ) (hops : ∀ i σ, i < K → Inv i σ → lw_ops (Inv (i + 1)) σ) (hI0 : Inv 0 kk_d) (C0 : lw_At p s m meth c b L xs) : W p l e room_1 s m #[Value.ref b] below meth c s.heap [] 0 0 (lw_Z below #[Value.ref b] s) (entryFrame m ([Value.ref b] : List Value).toArray 7) := by
  obtain ⟨hx, hb, hr, hml, hown, hts, hX, hbl, hlocks, hgv⟩ := C0
  obtain ⟨D, cA, hK⟩ := am_K0 hts
  have hg : ∀ w ∈ lw_good, w.before #[Value.ref b] s = true := fun w hw => hts w (List.mem_filter.mp hw).1
  have hC : am_Cx p room_1 s m #[Value.ref b] meth c D cA s.heap.size s.heap.size 0 0 kk_d.1 kk_d.2.1 2000 (mL meth.name) := ⟨hx, hb, hr, hml, hown, hg, hlocks, rfl, hK, ⟨rfl, Or.inr rfl⟩, by decide, by decide, by rw [kk_n1]; decide, by rw [kk_n2]; decide⟩
  have hl := lv_entry ([.ref b]) (n := 7) (Nat.le_of_ble_eq_true rfl)
  rw [lg_entry_eq]
  generalize (lg_sl ([.ref b]) ++ List.replicate (7 - (lg_sl ([.ref b])).length) Slot.unset).toArray = ls at hl ⊢
  have hl : lv_has ls 7 [(0, .ref b)] := hl
  have hlr : am_lr s.heap.size (mL meth.name).2.2.2.1 (mL meth.name).2.2.2.2.2.2 [some (.retAddr b), none, none, none, none, none, none] ls := by
    refine ⟨hl.1, hl.2.1, fun i v hi => ?_, fun _ i v hi => ?_⟩
    · match i, hi with
      | 0, hi => cases hi; exact lv_at hl 0 rfl
      | 1, hi => simp at hi
      | 2, hi => simp at hi
      | 3, hi => simp at hi
      | 4, hi => simp at hi
      | 5, hi => simp at hi
      | 6, hi => simp at hi
      | i + 7, hi => simp at hi
    · match i, hi with
      | 0, hi => cases hi; rfl
      | 1, hi => simp at hi
      | 2, hi => simp at hi
      | 3, hi => simp at hi
      | 4, hi => simp at hi
      | 5, hi => simp at hi
      | 6, hi => simp at hi
      | i + 7, hi => simp at hi
  have hP0 : va_P D vwCl (am_wl cA s.heap.size kk_s) s.heap := fun k q hq => by
    obtain ⟨h, -⟩ := am_wl_of hq
    exact absurd h (Nat.not_lt_zero _)
  have key := am_s_wk (below := below) (e := e) (l := l) (Q := lw_Z below #[Value.ref b] s) hC (am_sound l D cA s.heap.size 2000) (am_up_run 2000) 8 0 _ _ kk_s (kk_walk meth.name b) (Nat.le_refl _) (Nat.le_refl _) ?_ s.heap [] ls ⟨hP0, va_S.rf, hlr⟩
  · exact key
  · intro H locs ls hp
    obtain ⟨hP, hS, hlr⟩ := hp
    have hS : va_S (fun a => s.heap.size ≤ a) s.heap H locs := ⟨hS.1, fun a h1 h2 => hS.2.1 a h1 (fun z => h2 z.1), fun a ha => (hS.2.2 a ha).1⟩
    have hl : lv_has ls 7 [(0, .ref b), (1, .ref (s.heap.size + 0)), (2, .ref (s.heap.size + 161))] := ⟨hlr.1, hlr.2.1, fun q hq => by
      rcases List.mem_cons.mp hq with rfl | hq
      · exact hlr.2.2.1 0 _ rfl
      · rcases List.mem_cons.mp hq with rfl | hq
        · exact hlr.2.2.1 1 _ rfl
        · rcases List.mem_cons.mp hq with rfl | hq
          · exact hlr.2.2.1 2 _ rfl
          · exact absurd hq List.not_mem_nil⟩
    have hDD : va_D (fun a => s.heap.size ≤ a) (am_wl cA s.heap.size kk_d) := ⟨(am_D cA s.heap.size s.heap.size 0 kk_d (Or.inr rfl)).1, fun k q hq => ((am_D cA s.heap.size s.heap.size 0 kk_d (Or.inr rfl)).2 k q hq).1⟩
    rw [kk_n1, kk_n2]
    refine lv_iconst (v := 1) hx hb dL_law_16 (by decide) ?_
    refine va_newa (atype := .long) (A := fun a => s.heap.size ≤ a) (N' := 1) (a0 := (1, .inr (.inl (fun _ => 0)))) hx hb (hg _ (am_at_mem am_okA.2.2)) rfl hK.1 hP hDD hS (fun _ h => h) (fun cB => rfl) (by decide) (by decide) (by decide) (by decide) (by decide) dL_law_17 (fun q cJ H1 hK1 hP1 hD1 hS1 => ?_)
    have hlen : (am_wl cA s.heap.size kk_d).length = 194 := by simp [am_wl, kk_n1]
    have hat : (am_wl cA s.heap.size kk_d ++ [(q, .inl (cJ, 1, .inr (.inl (fun _ => 0))))])[194]? = some (q, .inl (cJ, 1, .inr (.inl (fun _ => (0 : Int64))))) := by rw [List.getElem?_append_right (by omega)]; simp [hlen]
    have hJ : ArrOfT s cJ .long ∧ va_RA s cJ .long := hK1.2 4 (cJ, .long) rfl
    have hPd : va_P D vwCl (am_wl cA s.heap.size kk_d) H1 := fun k z hz => hP1 k z (by rw [List.getElem?_append_left (List.getElem?_eq_some_iff.mp hz).1]; exact hz)
    have hqs : s.heap.size ≤ q := hD1.2 194 _ hat
    have hqb : s.heap.size + kk_d.1 ≤ q := by
      rw [kk_n1]
      rcases Nat.lt_or_ge q (s.heap.size + 194) with z | z
      · have hk9 : (am_wl cA s.heap.size kk_d ++ [(q, .inl (cJ, 1, .inr (.inl (fun _ => 0))))])[q - s.heap.size]? = some (s.heap.size + (q - s.heap.size), am_cell cA s.heap.size kk_d (q - s.heap.size)) := by
          rw [List.getElem?_append_left (by omega), am_wl_at (by rw [kk_n1]; omega)]
        have := hD1.1 (q - s.heap.size) 194 _ _ hk9 hat (by show s.heap.size + (q - s.heap.size) = q; omega)
        omega
      · exact z
    refine lv_astore_n (lv' := [(3, .ref q), (0, .ref b), (1, .ref (s.heap.size + 0)), (2, .ref (s.heap.size + 161))]) hx hb dL_law_19 rfl hl (by decide) rfl (fun ls hl => ?_)
    refine lv_iconst (v := 0) hx hb dL_law_20 (by decide) ?_
    refine lv_istore (lv' := [(4, .int 0), (3, .ref q), (0, .ref b), (1, .ref (s.heap.size + 0)), (2, .ref (s.heap.size + 161))]) hx hb dL_law_21 hl (by decide) rfl (fun ls hl => ?_)
    refine W.widen (k := 195 + 0) (n := 1187153 + 6 * 0) (by decide) (by decide) ?_
    exact law_loop hLK hK5 Inv hsh hops ⟨hx, hb, hr, hml, hown, hts, hlocks, hK, hJ, rfl, hflags, hgv⟩ hX hbl (L + 1) 0 0 kk_d (fun _ => 0) H1 locs ls (Nat.zero_le _) (by omega) rfl hI0 ⟨hPd, hP1 194 _ hat, hqb, hS1⟩ (lv_sub hl [2, 3, 4, 1, 0] rfl)
