section AMS2
variable {p : Program} {l : Launch} {e : Env} {R : Room} {s : State} {m : MethodId} {args : Array Value} {below : List Frame} {meth : Method} {c : Code} {H : Heap} {locs : List Loc} {Q : State → Prop}
variable {D : va_G} {cA : Nat → ClassId} {base sz n0 z0 nE zE d : Nat} {mi : am_I} {pc : Nat} {L : am_L} {S : List Value} {σ : am_St} {ls : Array Slot} {X : am_N}
theorem am_sz (hP : va_P D vwCl (am_wl cA base σ) H) (hS : va_S (am_A base sz n0) s.heap H locs) (hs : s.heap.size = sz) (hal : nE ≤ n0 ∨ sz = base + n0) (hσ : σ.1 ≤ nE) (hn : n0 ≤ σ.1) (hz : H.size ≤ s.heap.size + (σ.1 - n0)) : H.size = sz + (σ.1 - n0) := by
  have h0 := hS.1
  by_cases h1 : σ.1 = n0
  · omega
  · have h2 := (hP (σ.1 - 1) _ (am_wl_at (by omega))).lt
    have h3 : base + (σ.1 - 1) < H.size := h2
    omega
/-- where a new cell must lie -/
theorem am_new_at {E : va_E} {q : Nat} {H1 : Heap} (hP : va_P D vwCl (am_wl cA base σ ++ [(q, E)]) H1) (hD : va_D (am_A base sz n0) (am_wl cA base σ ++ [(q, E)])) (hs : s.heap.size = base + n0) (hn : n0 ≤ σ.1) (hz : H1.size ≤ s.heap.size + (σ.1 - n0 + 1)) : q = base + σ.1 := by
  have hlen : (am_wl cA base σ).length = σ.1 := by simp [am_wl]
  have hq : (am_wl cA base σ ++ [(q, E)])[σ.1]? = some (q, E) := by rw [List.getElem?_append_right (by omega)]; simp [hlen]
  have h1 : q < H1.size := (hP σ.1 _ hq).lt
  have h2 : base ≤ q := (hD.2 σ.1 _ hq).1
  by_cases hlt : q - base < σ.1
  · have hk : (am_wl cA base σ ++ [(q, E)])[q - base]? = some (base + (q - base), am_cell cA base σ (q - base)) := by
      rw [List.getElem?_append_left (by omega), am_wl_at hlt]
    have := hD.1 (q - base) σ.1 _ _ hk hq (by show base + (q - base) = q; omega)
    omega
  · omega
theorem am_cls_ok {own idx ci : Nat} (h : am_cls own idx = some ci) : Cond.classLink (am_Rn own) idx (am_Rn ci) ∈ lw_good ∧ Cond.instantiable (am_Rn ci) (am_nf ci) ∈ lw_good ∧ Cond.initialized (am_Rn ci) ∈ lw_good ∧ ci < 13 := by
  unfold am_cls at h
  obtain ⟨e, he, h1⟩ := Option.map_eq_some_iff.mp h
  have hm := List.mem_of_find?_eq_some he
  have hf := List.find?_some he
  simp only [Bool.and_eq_true, beq_iff_eq] at hf
  have hk := List.all_eq_true.mp am_okc_all e hm
  simp only [am_okc, Bool.and_eq_true, decide_eq_true_eq] at hk
  rw [hf.1, hf.2, h1] at hk
  exact ⟨am_at_mem hk.1.1.1, am_at_mem hk.1.1.2, am_at_mem hk.1.2, hk.2⟩
theorem am_fs_new {base : Nat} {σ : am_St} {t n z ci : Nat} (h13 : ci < 13) : ∀ j, j < am_nf ci → defaultValue (am_ty ci j) = vp_V (am_fs base (am_al σ t n z) σ.1 ci) j := by
  intro j hj
  have hb := List.all_eq_true.mp am_tyB_ok ci (List.mem_range.mpr h13)
  have hb2 := List.all_eq_true.mp hb j (List.mem_range.mpr hj)
  unfold vp_V
  rw [List.getD_eq_getElem?_getD, am_fs_at hj]
  show _ = am_fv base (am_al σ t n z) σ.1 ci j
  unfold am_fv
  simp only [am_al, if_true]
  generalize am_ty ci j = ty at hb2 ⊢
  match ty, hb2 with
  | .object _, _ => rfl
  | .array _, _ => rfl
  | .int, _ => rfl
  | .boolean, _ => rfl
theorem am_mk_n {ins : Instr} (h : am_mk mi ins pc L S σ = some X) : ∃ a b c d, X = .inl (a, b, c, d) ∧ d.1 = σ.1 + 1 := by
  unfold am_mk at h
  repeat' split at h
  all_goals first | (cases h; done) | exact ⟨_, _, _, _, (Option.some.inj h).symm, rfl⟩
theorem am_s_mk {ins : Instr} {len : Nat} (hC : am_Cx p R s m args meth c D cA base sz n0 z0 nE zE d mi) (hd : decode mi.2.2.1 pc = .ok (ins, len)) (hlen : ((∃ a, ins = .new a) → len = 3) ∧ ((∃ a, ins = .newarray a) → len = 2) ∧ ((∃ a, ins = .anewarray a) → len = 3)) (h : am_mk mi ins pc L S σ = some X) (hk : am_Wn p l e R s m args below meth c D cA base sz n0 z0 mi Q X) (hp : am_Pt s D cA base sz n0 mi σ L H locs ls) (hn : n0 ≤ σ.1) (hz : z0 ≤ σ.2.1)
    (hE : ∀ pc' L' S' σ', X = .inl (pc', L', S', σ') → σ'.1 ≤ nE ∧ σ'.2.1 ≤ zE) : W p l e R s m args below meth c H locs (σ.1 - n0) (σ.2.1 - z0) Q (F0 m pc ls (S.map (am_v base))) := by
  obtain ⟨hx, hb, -, -, hown, hts, -, -, hK, ⟨hs0, hal⟩, -, -, hRc, hRs⟩ := hC
  obtain ⟨a9, b9, c9, σ9, hX9, hn9⟩ := am_mk_n h
  have hE9 := (hE _ _ _ _ hX9).1
  have hs : s.heap.size = base + n0 := by omega
  have hD := am_D cA base sz n0 σ (by omega)
  have hA : ∀ q : Nat, s.heap.size ≤ q → am_A base sz n0 q := fun q h => ⟨by omega, Or.inr (by omega)⟩
  unfold am_mk at h
  split at h
  · rename_i idx
    obtain rfl := hlen.1 ⟨_, rfl⟩
    split at h
    · rename_i ci hc
      obtain ⟨w1, w2, w3, h13⟩ := am_cls_ok hc
      have hE' := hE _ _ _ _ (Option.some.inj h).symm
      have e1 : σ.1 + 1 ≤ nE := hE'.1
      have e2 : σ.2.1 + am_nf ci ≤ zE := hE'.2
      refine va_new (D := D) (ci := ci) (C := am_Rn ci) (T := am_T ci) (N := am_nf ci) (fs := am_fs base (am_al σ (ci + 4) 0 (am_nf ci)) σ.1 ci) hx hb hts (am_ws_ok ci h13) (am_ty ci) (am_ty_ok ci h13) hown (hts _ w1) (hts _ w2) (hts _ w3) hK.1 hp.1 hD hp.2.1 hA (am_cl_ok ci h13) (am_fs_new h13) (by omega) (by omega) hd (fun q H1 hP1 hD1 hS1 => am_size (fun hz1 => ?_))
      obtain rfl := am_new_at hP1 hD1 hs hn hz1
      have hP2 : va_P D vwCl (am_wl cA base (am_al σ (ci + 4) 0 (am_nf ci))) H1 := by
        rw [am_wl_al, am_cell_obj (c := ci) (by simp [am_al])]
        exact hP1
      have kk := am_nx_k h hk H1 locs ls ⟨hP2, hS1, hp.2.2⟩
      rw [show (am_al σ (ci + 4) 0 (am_nf ci)).1 - n0 = σ.1 - n0 + 1 by show σ.1 + 1 - n0 = _; omega, show (am_al σ (ci + 4) 0 (am_nf ci)).2.1 - z0 = σ.2.1 - z0 + am_nf ci by show σ.2.1 + am_nf ci - z0 = _; omega] at kk
      exact kk
    · cases h
  · rename_i t
    obtain rfl := hlen.2.1 ⟨_, rfl⟩
    split at h
    · rename_i n rest
      split at h
      · rename_i a ha
        split at h
        · rename_i hc
          have hE' := hE _ _ _ _ (Option.some.inj h).symm
          have e1 : σ.1 + 1 ≤ nE := hE'.1
          have e2 : σ.2.1 + n.toNatClampNeg ≤ zE := hE'.2
          have key : ∀ (ty : FieldType) (k : Nat), newarray.typeOf t = ty → a = k → (cA k, ty) = (cA k, ty) → ((Cond.arrayClass (newarray.typeOf t)).before args s = true) → (am_tys cA)[k]? = some (cA k, ty) → (∀ cB : ClassId, va_RA s (cA k) ty → va_RA s cB ty → cB = cA k) → n.toNatClampNeg * componentBytes ty ≤ 536870912 → (∀ cB : ClassId, vp_cell cB (n.toNatClampNeg, .inl (fun _ => (0 : Int32))) = arrV cB n.toNatClampNeg (fun _ => defaultValue ty)) → am_cell cA base (am_al σ k n.toNatClampNeg n.toNatClampNeg) σ.1 = .inl (cA k, n.toNatClampNeg, .inl (fun _ => (0 : Int32))) → W p l e R s m args below meth c H locs (σ.1 - n0) (σ.2.1 - z0) Q (F0 m pc ls (.int n :: rest.map (am_v base))) := by
            intro ty k hty hak _ harr htk hun hby hcell hce
            subst hak
            refine va_newa (D := D) hx hb harr hty hK.1 hp.1 hD hp.2.1 hA (a0 := (n.toNatClampNeg, .inl (fun _ => (0 : Int32)))) hcell hc.1 rfl hby (by omega) (by omega) hd (fun q cB H1 hK1 hP1 hD1 hS1 => am_size (fun hz1 => ?_))
            obtain rfl := am_new_at hP1 hD1 hs hn hz1
            have hcB : cB = cA a := by
              refine hun cB (hK.1.2 a _ htk).2 ?_
              have h9 := (hK1.2 (am_tys cA).length (cB, ty) (by rw [List.getElem?_append_right (Nat.le_refl _)]; simp)).2
              exact h9
            subst hcB
            have hP2 : va_P D vwCl (am_wl cA base (am_al σ a n.toNatClampNeg n.toNatClampNeg)) H1 := by
              rw [am_wl_al, hce]
              exact hP1
            have kk := am_nx_k h hk H1 locs ls ⟨hP2, hS1, hp.2.2⟩
            rw [show (am_al σ a n.toNatClampNeg n.toNatClampNeg).1 - n0 = σ.1 - n0 + 1 by show σ.1 + 1 - n0 = _; omega, show (am_al σ a n.toNatClampNeg n.toNatClampNeg).2.1 - z0 = σ.2.1 - z0 + n.toNatClampNeg by show σ.2.1 + n.toNatClampNeg - z0 = _; omega] at kk
            exact kk
          have hun : ∀ (ty : FieldType) (x y : ClassId), (ty = .int ∨ ty = .byte) → va_RA s x ty → va_RA s y ty → y = x := by
            intro ty x y ht h1 h2
            rcases ht with rfl | rfl
            · exact Option.some.inj ((show s.vm.findClass _ = some y from h2).symm.trans h1)
            · exact Option.some.inj ((show s.vm.findClass _ = some y from h2).symm.trans h1)
          match t, ha with
          | .int, ha =>
            exact key .int 0 rfl (Option.some.inj ha).symm rfl (hts _ (am_at_mem am_okA.1)) rfl (fun cB h1 h2 => hun .int _ _ (Or.inl rfl) h1 h2) hc.2 (fun cB => rfl) (by rw [am_cell_int (by simp [am_al])]; simp [am_al])
          | .byte, ha =>
            exact key .byte 1 rfl (Option.some.inj ha).symm rfl (hts _ (am_at_mem am_okA.2.1)) rfl (fun cB h1 h2 => hun .byte _ _ (Or.inr rfl) h1 h2) (by have := hc.2; show n.toNatClampNeg * 1 ≤ _; omega) (fun cB => rfl) (by rw [am_cell_byte (by simp [am_al])]; simp [am_al])
        · cases h
      · cases h
    · cases h
  · rename_i idx
    obtain rfl := hlen.2.2 ⟨_, rfl⟩
    split at h
    · rename_i n rest
      split at h
      · rename_i ci hcl
        split at h
        · rename_i hc
          have hE' := hE _ _ _ _ (Option.some.inj h).symm
          have e1 : σ.1 + 1 ≤ nE := hE'.1
          have e2 : σ.2.1 + n.toNatClampNeg ≤ zE := hE'.2
          obtain ⟨w1, -, -, -⟩ := am_cls_ok hcl
          have key : ∀ (C : String) (k : Nat), am_Rn ci = C → (if ci = 4 then 2 else 3) = k → va_AO C s → (am_tys cA)[k]? = some (cA k, .object C) → am_cell cA base (am_al σ k n.toNatClampNeg n.toNatClampNeg) σ.1 = .inl (cA k, n.toNatClampNeg, .inr (.inr (.inr (.inr (fun _ => none))))) → W p l e R s m args below meth c H locs (σ.1 - n0) (σ.2.1 - z0) Q (F0 m pc ls (.int n :: rest.map (am_v base))) := by
            intro C k hC0 hk0 hAO htk hce
            subst hC0
            subst hk0
            refine va_newq (D := D) hx hb hown (hts _ w1) hAO hK.1 hp.1 hD hp.2.1 hA hc.1 rfl hc.2.1 (by omega) (by omega) hd (fun q cB H1 hK1 hP1 hD1 hS1 => am_size (fun hz1 => ?_))
            obtain rfl := am_new_at hP1 hD1 hs hn hz1
            have hcB : cB = cA (if ci = 4 then 2 else 3) := by
              obtain ⟨_, _, _, _, _, h4⟩ := (hK.1.2 _ _ htk).2
              obtain ⟨_, _, _, _, _, h9⟩ := (hK1.2 (am_tys cA).length (cB, .object (am_Rn ci)) (by rw [List.getElem?_append_right (Nat.le_refl _)]; simp)).2
              exact Option.some.inj (h9.symm.trans h4)
            subst hcB
            have hP2 : va_P D vwCl (am_wl cA base (am_al σ (if ci = 4 then 2 else 3) n.toNatClampNeg n.toNatClampNeg)) H1 := by
              rw [am_wl_al, hce]
              exact hP1
            have kk := am_nx_k h hk H1 locs ls ⟨hP2, hS1, hp.2.2⟩
            rw [show (am_al σ (if ci = 4 then 2 else 3) n.toNatClampNeg n.toNatClampNeg).1 - n0 = σ.1 - n0 + 1 by show σ.1 + 1 - n0 = _; omega, show (am_al σ (if ci = 4 then 2 else 3) n.toNatClampNeg n.toNatClampNeg).2.1 - z0 = σ.2.1 - z0 + n.toNatClampNeg by show σ.2.1 + n.toNatClampNeg - z0 = _; omega] at kk
            exact kk
          rcases hc.2.2 with rfl | rfl
          · exact key RX4 2 rfl rfl hK.2.1 rfl (by rw [am_cell_r2 (by simp [am_al])]; simp [am_al])
          · exact key RX7 3 rfl rfl hK.2.2 rfl (by rw [am_cell_r3 (by simp [am_al])]; simp [am_al])
        · cases h
      · cases h
    · cases h
  · cases h
end AMS2
