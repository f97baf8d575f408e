section AMS3
variable {p : Program} {l : Launch} {e : Env} {R : Room} {s : State} {m : MethodId} {args : Array Value} {below : List Frame} {meth : Method} {c : Code} {H : Heap} {locs : List Loc} {Q : State → Prop}
variable {D : va_G} {cA : Nat → ClassId} {base sz n0 z0 nE zE d : Nat} {mi : am_I} {pc : Nat} {L : am_L} {S : List Value} {σ : am_St} {ls : Array Slot} {X : am_N}
variable {call : am_I → List Value → am_St → Option (Option Value × am_St)}
def am_gd (m2 : am_I) : Prop := Cond.code m2.2.1 m2.2.2.1 m2.2.2.2.1 m2.2.2.2.2.1 ∈ lw_good ∧ am_okI m2 = true
theorem am_mth_ok {own idx kd : Nat} {m2 : am_I} (h : am_mth own idx kd = some m2) : am_gd m2 ∧ Cond.methodLink (am_Rn own) idx m2.2.1 ∈ lw_good ∧ Cond.initialized m2.2.1.cls ∈ lw_good ∧ (kd = 0 → Cond.instanceMethod m2.2.1 ∈ lw_good ∧ Cond.selects m2.2.1.cls m2.2.1 m2.2.1 ∈ lw_good ∧ m2.1 < 13) ∧ (kd = 1 → Cond.static m2.2.1 ∈ lw_good) ∧ (kd = 2 → Cond.instanceMethod m2.2.1 ∈ lw_good ∧ m2.2.1.name = "<init>" ∧ m2.2.2.2.2.1 = none) := by
  unfold am_mth at h
  obtain ⟨e, he, h1⟩ := Option.map_eq_some_iff.mp h
  have hm := List.mem_of_find?_eq_some he
  have hf := List.find?_some he
  simp only [Bool.and_eq_true, beq_iff_eq] at hf
  have hk := List.all_eq_true.mp am_okm_all e hm
  have hd := am_okd_all e hm
  obtain ⟨e1, e2, e3, e4, e5⟩ := e
  simp only at h1 hf hd
  obtain rfl := h1
  obtain ⟨⟨rfl, rfl⟩, rfl⟩ := hf
  simp only [am_okm, Bool.and_eq_true] at hk
  obtain ⟨⟨⟨k1, k2⟩, k3⟩, k4⟩ := hk
  refine ⟨⟨hd, k1⟩, am_at_mem k2, am_at_mem k3, fun q => ?_, fun q => ?_, fun q => ?_⟩
  · subst q
    simp only [Bool.and_eq_true, decide_eq_true_eq] at k4
    exact ⟨am_at_mem k4.1.1, am_at_mem k4.1.2, k4.2⟩
  · subst q
    exact am_at_mem k4
  · subst q
    simp only [Bool.and_eq_true, decide_eq_true_eq, beq_iff_eq] at k4
    exact ⟨am_at_mem k4.1.1, k4.1.2, k4.2⟩
/-- what is known of the callees -/
def am_CO (l : Launch) (D : va_G) (cA : Nat → ClassId) (base d : Nat) (call : am_I → List Value → am_St → Option (Option Value × am_St)) : Prop :=
  ∀ (m2 : am_I) (as : List Value) (σ : am_St) (r : Option Value) (σ1 : am_St), am_gd m2 → call m2 as σ = some (r, σ1) → (∀ sz, am_Met l D cA base sz d m2 as σ r σ1) ∧ m2.2.2.2.1 ≤ 20
def am_up (call : am_I → List Value → am_St → Option (Option Value × am_St)) : Prop := ∀ (m2 : am_I) (as : List Value) (σ : am_St) (r : Option Value) (σ1 : am_St), call m2 as σ = some (r, σ1) → σ.1 ≤ σ1.1 ∧ σ.2.1 ≤ σ1.2.1
theorem am_Pblind {av : List Value} : FrameBlind (va_Pc av (am_P D cA base sz σ)) := fun _ U g mk q => ⟨q.1, q.2.1, q.2.2.1, am_K.moved (u := U) (U := U.calling g mk _) (Vm.Alike.refl U.vm) q.2.2.2⟩
theorem am_callB {m2 : am_I} {σ1 : am_St} {idx : Nat} {own : String} (hts : ∀ w ∈ lw_good, w.before args s = true) (hRf : d + 1 ≤ R.frames) (hRl : 40 * (d + 1) ≤ R.locals) (hg : am_gd m2) (hml : m2.2.2.2.1 ≤ 20) (hl : Cond.methodLink own idx m2.2.1 ∈ lw_good) (hi : Cond.initialized m2.2.1.cls ∈ lw_good) :
    CallB R s args own idx m2.2.1 m2.2.2.1 m2.2.2.2.1 m2.2.2.2.2.1 (am_wd m2) (am_rm d σ σ1) (σ1.1 - σ.1) (σ1.2.1 - σ.2.1) m2.2.2.2.2.2.1 := by
  obtain ⟨hc, ho⟩ := hg
  simp only [am_okI, Bool.and_eq_true, decide_eq_true_eq, beq_iff_eq] at ho
  refine ⟨rfl, rfl, hRf, by show 8 + (m2.2.2.2.1 + 11) + 40 * d ≤ _; omega, pay_in hts (fun w hw => ?_), List.mem_cons_self, hts _ hc, hts _ hi, ⟨ho.1.1.2, ho.1.2⟩, fun sig h => ?_, hts _ hl⟩
  · rcases List.mem_cons.mp hw with rfl | hw
    · exact ⟨hc, am_good_in hc⟩
    · exact ⟨hw, am_good_in hw⟩
  · have h2 := ho.2
    rw [h] at h2
    exact (Option.some.inj h2).symm
theorem am_back {m2 : am_I} {r : Option Value} {σ1 : am_St} {a : Array Value} {rest : List Value} {st0 : List Value} {sz1 : Nat} (hrun : va_Run p l e R s m args below meth c H locs (σ.1 - n0) (σ.2.1 - z0) (σ1.1 - σ.1) (σ1.2.1 - σ.2.1) (F0 m pc ls st0) (rest.map (am_v base)) (am_Q D cA base sz1 σ r σ1 a) (am_A base sz1 σ.1))
    (hk : am_Wt p l e R s m args below meth c D cA base sz n0 z0 mi Q (pc + 3) L (r.toList ++ rest) σ1) (hp : am_Pt s D cA base sz n0 mi σ L H locs ls) (hn : n0 ≤ σ.1) (hz : z0 ≤ σ.2.1) (hu : σ.1 ≤ σ1.1 ∧ σ.2.1 ≤ σ1.2.1) (hA : ∀ q, am_A base sz1 σ.1 q → am_A base sz n0 q) : W p l e R s m args below meth c H locs (σ.1 - n0) (σ.2.1 - z0) Q (F0 m pc ls st0) := by
  intro T hT Y
  obtain ⟨v, st₀, t, T', Lo, h0, Y', hLo, e1, e2, ⟨hv, ⟨hsz, hP1, -⟩, hF1, hF2⟩, st⟩ := hrun T hT Y
  have hv' : v = r.map (am_v base) := by cases hv; rfl
  subst hv'
  rw [h0] at hF1 hF2
  have hS1 : va_S (am_A base sz n0) s.heap T'.heap (locs ++ Lo) := ⟨Nat.le_trans hp.2.1.1 (by rw [e1]; exact hF1), fun q h1 h2 => by rw [e1, hF2 q (Nat.lt_of_lt_of_le h1 hp.2.1.1) (fun z => h2 (hA q z))]; exact hp.2.1.2.1 q h1 h2, fun q hq => by
      rcases List.mem_append.mp hq with h | h
      · exact hp.2.1.2.2 q h
      · exact hA _ (hLo q h)⟩
  have kk := hk T'.heap (locs ++ Lo) ls ⟨by rw [e1]; exact hP1, hS1, hp.2.2⟩
  rw [show σ1.1 - n0 = σ.1 - n0 + (σ1.1 - σ.1) by omega, show σ1.2.1 - z0 = σ.2.1 - z0 + (σ1.2.1 - σ.2.1) by omega] at kk
  obtain ⟨t2, a1, b1⟩ := kk T' rfl Y'
  refine ⟨t2, st t2 ?_, b1⟩
  have he : (r.map (am_v base)).toList ++ rest.map (am_v base) = (r.toList ++ rest).map (am_v base) := by cases r <;> rfl
  rw [he]
  exact a1
theorem am_calls_k {m2 : am_I} {as rest : List Value} (h : am_calls call m2 as pc L rest σ = some X) (hk : am_Wn p l e R s m args below meth c D cA base sz n0 z0 mi Q X) (hE : ∀ pc' L' S' σ', X = .inl (pc', L', S', σ') → σ'.1 ≤ nE ∧ σ'.2.1 ≤ zE) : (rest.map fun v => v.category).sum ≤ 8 ∧ ∃ r σ1, call m2 as σ = some (r, σ1) ∧ am_Wt p l e R s m args below meth c D cA base sz n0 z0 mi Q (pc + 3) L (r.toList ++ rest) σ1 ∧ σ1.1 ≤ nE ∧ σ1.2.1 ≤ zE := by
  unfold am_calls at h
  split at h
  · rename_i hc
    refine ⟨hc, ?_⟩
    split at h
    · rename_i v σ1 hv
      exact ⟨v, σ1, hv, am_nx_k h hk, hE _ _ _ _ (Option.some.inj h).symm⟩
    · cases h
  · cases h
theorem am_cats {rest : List Value} (h : (rest.map fun v => v.category).sum ≤ 8) : ((rest.map (am_v base)).map fun v => v.category).sum ≤ 8 := by
  rw [List.map_map]
  have : ((fun v : Value => v.category) ∘ am_v base) = (fun v : Value => v.category) := funext (fun v => am_v_cat base v)
  rw [this]
  exact h
theorem am_s_inv {kd idx : Nat} (hC : am_Cx p R s m args meth c D cA base sz n0 z0 nE zE d mi) (hd : (kd = 0 ∧ decode mi.2.2.1 pc = .ok (.invokevirtual idx, 3)) ∨ (kd = 1 ∧ decode mi.2.2.1 pc = .ok (.invokestatic idx, 3)) ∨ (kd = 2 ∧ decode mi.2.2.1 pc = .ok (.invokespecial idx, 3))) (h : am_inv call mi kd idx pc L S σ = some X) (hk : am_Wn p l e R s m args below meth c D cA base sz n0 z0 mi Q X) (hp : am_Pt s D cA base sz n0 mi σ L H locs ls) (hn : n0 ≤ σ.1) (hz : z0 ≤ σ.2.1)
    (hE : ∀ pc' L' S' σ', X = .inl (pc', L', S', σ') → σ'.1 ≤ nE ∧ σ'.2.1 ≤ zE) (hCO : am_CO l D cA base d call) (hup : am_up call) (hσ : σ.1 ≤ nE ∧ σ.2.1 ≤ zE) : W p l e R s m args below meth c H locs (σ.1 - n0) (σ.2.1 - z0) Q (F0 m pc ls (S.map (am_v base))) := by
  obtain ⟨hx, hb, hr, hml, hown, hts, hlk, hnm, hK, ⟨hs, hal⟩, hRf, hRl, hRc, hRs⟩ := hC
  have hlsz : ls.size = mi.2.2.2.1 := hp.2.2.1
  have hD := am_D cA base sz n0 σ (by omega)
  have mcat : ∀ {rest : List Value}, (rest.map fun v => v.category).sum ≤ 8 → ((rest.map (am_v base)).map fun v => v.category).sum + 30 ≤ R.locals := by
    intro rest hq
    have := am_cats (base := base) hq
    omega
  refine am_size (fun hz1 => ?_)
  have hsz := am_sz hp.1 hp.2.1 hs hal hσ.1 hn hz1
  have hA9 : ∀ q, am_A base (sz + (σ.1 - n0)) σ.1 q → am_A base sz n0 q := by
    intro q hq
    refine ⟨hq.1, ?_⟩
    have h9 := hq.2
    omega
  have hPc : ∀ {as : List Value} (U : State), U.heap = H → s.WarmedH U.vm → va_Pc (as.map (am_v base)) (am_P D cA base (sz + (σ.1 - n0)) σ) (as.map (am_v base)).toArray U := fun U hU hW => ⟨rfl, by rw [hU]; exact hsz, by rw [hU]; exact hp.1, am_K.moved hW.alike hK⟩
  unfold am_inv at h
  split at h
  · rcases hd with ⟨-, hd⟩ | ⟨q, -⟩ | ⟨q, -⟩
    · split at h
      · rename_i m2 hm
        obtain ⟨hg, hl, hi, hv, -, -⟩ := am_mth_ok hm
        obtain ⟨w1, w2, h13⟩ := hv rfl
        split at h
        · rename_i b rest hdr
          split at h
          · rename_i hc
            obtain ⟨hcat, r, σ1, hcall, kk, hE1⟩ := am_calls_k h hk hE
            obtain ⟨hM0, hm20⟩ := hCO _ _ _ _ _ hg hcall
            have hu := hup _ _ _ _ _ hcall
            have hM := hM0 (sz + (σ.1 - n0)) (by omega)
            have hcn : m2.2.1.cls = am_Rn m2.1 := by
              have ho := hg.2
              simp only [am_okI, Bool.and_eq_true, decide_eq_true_eq, beq_iff_eq] at ho
              exact ho.1.1.1.1
            have hlen : m2.2.2.2.2.2.1 < S.length := by
              rcases Nat.lt_or_ge m2.2.2.2.2.2.1 S.length with q | q
              · exact q
              · rw [List.drop_eq_nil_of_le q] at hdr; cases hdr
            have hst : S.map (am_v base) = (((S.take m2.2.2.2.2.2.1).reverse).map (am_v base)).reverse ++ .ref (base + b) :: rest.map (am_v base) := by
              rw [List.map_reverse, List.reverse_reverse]
              have e9 : S = S.take m2.2.2.2.2.2.1 ++ (.ref b :: rest) := by rw [← hdr, List.take_append_drop]
              conv => lhs; rw [e9, List.map_append]
              rfl
            refine am_back (m2 := m2) (va_runV (C := am_Rn m2.1) (b := base + b) (As := ((S.take m2.2.2.2.2.2.1).reverse).map (am_v base)) ⟨hx, hb, hml, hown, hts⟩ hM ⟨am_callB hts hRf hRl hg hm20 hl hi, hts _ w1, by rw [← hcn]; exact hts _ w2⟩ ⟨am_Pblind, va_recv hK.1 hp.1 (am_cl_ok m2.1 h13) (by rw [am_wl_at hc.1, am_cell_obj hc.2]), fun U hU hW => hPc U hU hW⟩ rfl (by rw [List.length_map, List.length_reverse, List.length_take]; omega) hlsz hst (lv_room (am_cats hcat)) hd ⟨by omega, by omega⟩) kk hp hn hz hu hA9
          · cases h
        · cases h
      · cases h
    · cases q
    · cases q
  · rcases hd with ⟨q, -⟩ | ⟨-, hd⟩ | ⟨q, -⟩
    · cases q
    · split at h
      · rename_i hisC
        obtain ⟨ec, hec1, hec2⟩ := List.any_eq_true.mp hisC
        simp only [Bool.and_eq_true, beq_iff_eq] at hec2
        have hlk := am_at_mem (List.all_eq_true.mp am_oky_all ec hec1)
        rw [hec2.1, hec2.2] at hlk
        split at h
        · rename_i n dp d0 sp s0 rest
          unfold am_copy at h
          split at h
          · rename_i hc
            obtain ⟨c1, c2, c3, c4, c5, c6, c7, c8, c9, c10⟩ := hc
            have hcp : ((rest.map (am_v base)).map fun v => v.category).sum + (nativeFrameWords "java/lang/System" "arraycopy" 5 + 11) ≤ R.locals := by
              have h8 := am_cats (base := base) c10
              have e9 : nativeFrameWords "java/lang/System" "arraycopy" 5 ≤ 20 := by decide
              omega
            have hf1 : 1 ≤ R.frames := by omega
            refine va_copyi hx hb (by rw [hml, hlsz]) hown (hts _ hlk) (hts _ (am_at_mem am_okY.1)) (hts _ (am_at_mem am_okY.2.1)) (hts _ (am_at_mem am_okY.2.2)) hK.1 hp.1 hD hp.2.1 s0 d0 0 0 (by rw [am_wl_at c1, am_cell_int c3]) (by rw [am_wl_at c2, am_cell_int c4]) rfl rfl rfl c5 c6 c7 c8 c9 (fun _ _ => rfl) hf1 hcp hd (fun H1 locs1 hP1 _ hS1 => ?_)
            rw [am_wl_cp c4] at hP1
            exact am_nx_k h hk _ _ _ ⟨hP1, hS1, hp.2.2⟩
          · cases h
        · cases h
      · split at h
        · rename_i hisX
          obtain ⟨ec, hec1, hec2⟩ := List.any_eq_true.mp hisX
          simp only [Bool.and_eq_true, beq_iff_eq] at hec2
          have hlk := am_at_mem (List.all_eq_true.mp am_okx_all ec hec1)
          rw [hec2.1, hec2.2] at hlk
          split at h
          · split at h
            · rename_i hc
              exact va_mmax hx hb (by rw [hml, hlsz]) hown (hts _ hlk) (hts _ (am_at_mem am_okX.1)) (hts _ (am_at_mem am_okX.2.1)) (hts _ (am_at_mem am_okX.2.2)) (by omega) (by have := mcat hc; omega) (by omega) (by omega) hd (am_nx_k h hk _ _ _ hp)
            · cases h
          · cases h
        · split at h
          · rename_i hisM
            obtain ⟨ec, hec1, hec2⟩ := List.any_eq_true.mp hisM
            simp only [Bool.and_eq_true, beq_iff_eq] at hec2
            have hlk := am_at_mem (List.all_eq_true.mp am_okn_all ec hec1)
            rw [hec2.1, hec2.2] at hlk
            split at h
            · split at h
              · rename_i hc
                exact va_mmin hx hb (by rw [hml, hlsz]) hown (hts _ hlk) (hts _ (am_at_mem am_okN.1)) (hts _ (am_at_mem am_okN.2.1)) (hts _ (am_at_mem am_okN.2.2)) (by omega) (by have := mcat hc; omega) (by omega) (by omega) hd (am_nx_k h hk _ _ _ hp)
              · cases h
            · cases h
          · split at h
            · rename_i m2 hm
              obtain ⟨hg, hl, hi, -, hv, -⟩ := am_mth_ok hm
              have w1 := hv rfl
              split at h
              · rename_i hlen
                obtain ⟨hcat, r, σ1, hcall, kk, hE1⟩ := am_calls_k h hk hE
                obtain ⟨hM0, hm20⟩ := hCO _ _ _ _ _ hg hcall
                have hu := hup _ _ _ _ _ hcall
                have hM := hM0 (sz + (σ.1 - n0)) (by omega)
                have hst : S.map (am_v base) = (((S.take m2.2.2.2.2.2.1).reverse).map (am_v base)).reverse ++ (S.drop m2.2.2.2.2.2.1).map (am_v base) := by
                  rw [List.map_reverse, List.reverse_reverse, ← List.map_append, List.take_append_drop]
                refine am_back (m2 := m2) (va_runS (As := ((S.take m2.2.2.2.2.2.1).reverse).map (am_v base)) ⟨hx, hb, hml, hown, hts⟩ hM ⟨am_callB hts hRf hRl hg hm20 hl hi, hts _ w1⟩ ⟨am_Pblind, fun U hU hW => hPc U hU hW⟩ rfl (by rw [List.length_map, List.length_reverse, List.length_take]; omega) hlsz hst (lv_room (am_cats hcat)) hd ⟨by omega, by omega⟩) kk hp hn hz hu hA9
              · cases h
            · cases h
    · cases q
  · rename_i hn0 hn1
    rcases hd with ⟨q, -⟩ | ⟨q, -⟩ | ⟨-, hd⟩
    · exact absurd q hn0
    · exact absurd q hn1
    · split at h
      · rename_i hisO
        obtain ⟨ec, hec1, hec2⟩ := List.any_eq_true.mp hisO
        simp only [Bool.and_eq_true, beq_iff_eq] at hec2
        have hlk := am_at_mem (List.all_eq_true.mp am_oko_all ec hec1)
        rw [hec2.1, hec2.2] at hlk
        split at h
        · split at h
          · rename_i hc
            exact W.objInit hx hb hown (hts _ hlk) (hts _ (am_at_mem am_okO.1)) (hts _ (am_at_mem am_okO.2)) rfl (by rw [hml]; exact hlsz) rfl hd (by omega) (by have := mcat hc; show 2 * 0 + _ + 12 ≤ _; omega) (am_nx_k h hk _ _ _ hp)
          · cases h
        · cases h
      · split at h
        · rename_i m2 hm
          obtain ⟨hg, hl, hi, -, -, hv⟩ := am_mth_ok hm
          obtain ⟨w1, w2, w3⟩ := hv rfl
          split at h
          · rename_i b rest hdr
            obtain ⟨hcat, r, σ1, hcall, kk, hE1⟩ := am_calls_k h hk hE
            obtain ⟨hM0, hm20⟩ := hCO _ _ _ _ _ hg hcall
            have hu := hup _ _ _ _ _ hcall
            have hM := hM0 (sz + (σ.1 - n0)) (by omega)
            have hlen : m2.2.2.2.2.2.1 < S.length := by
              rcases Nat.lt_or_ge m2.2.2.2.2.2.1 S.length with q | q
              · exact q
              · rw [List.drop_eq_nil_of_le q] at hdr; cases hdr
            have hst : S.map (am_v base) = (((S.take m2.2.2.2.2.2.1).reverse).map (am_v base)).reverse ++ .ref (base + b) :: rest.map (am_v base) := by
              rw [List.map_reverse, List.reverse_reverse]
              have e9 : S = S.take m2.2.2.2.2.2.1 ++ (.ref b :: rest) := by rw [← hdr, List.take_append_drop]
              conv => lhs; rw [e9, List.map_append]
              rfl
            have hB := am_callB (σ := σ) (σ1 := σ1) hts hRf hRl hg hm20 hl hi
            rw [w3] at hB
            refine am_back (m2 := m2) (va_runI (b := base + b) (As := ((S.take m2.2.2.2.2.2.1).reverse).map (am_v base)) ⟨hx, hb, hml, hown, hts⟩ hM ⟨hB, w2, hts _ w1⟩ ⟨am_Pblind, fun U hU hW => hPc U hU hW⟩ rfl (by rw [List.length_map, List.length_reverse, List.length_take]; omega) hlsz hst (lv_room (am_cats hcat)) hd ⟨by omega, by omega⟩) kk hp hn hz hu hA9
          · cases h
        · cases h
end AMS3
