/-- the law's own world: the machine's cells, and behind them the row of one long -/
def lw_V (s : State) (D : va_G) (cA : Nat → ClassId) (cJ : ClassId) (base q : Nat) (σ : am_St) (f : Nat → Int64) (H : Heap) (locs : List Loc) : Prop :=
  va_P D vwCl (am_wl cA base σ) H ∧ H[q]? = some (vp_cell cJ (1, .inr (.inl f))) ∧ base + σ.1 ≤ q ∧ va_S (fun a => base ≤ a) s.heap H locs
/-- where the class's step throws -/
def lw_thr (σ : am_St) (a b : Int32) : Prop := g_I σ 102 3 = -1 ∨ a < 0 ∨ g_I σ 102 4 ≤ a ∨ b < 0 ∨ 6 ≤ b
def lw_sm (σ σ1 : am_St) : Prop := σ1.1 = σ.1 ∧ σ1.2.1 = σ.2.1 ∧ σ1.2.2.1 = σ.2.2.1
/-- what the law knows of its frame -/
def lw_Cx (p : Program) (l : Launch) (s : State) (m : MethodId) (meth : Method) (c : Code) (D : va_G) (cA : Nat → ClassId) (cJ : ClassId) (base b : Nat) : Prop :=
  p.tables.exec = Jvm.exec ∧ c.code = code ∧ meth.sig.returnType = ret ∧ c.maxLocals = 7 ∧ s.vm.findClass R_law = some m.cls ∧ (∀ w ∈ lw_tbl, w.before #[Value.ref b] s = true) ∧ meth.locks = false ∧ am_K D cA s ∧ (ArrOfT s cJ .long ∧ va_RA s cJ .long) ∧ s.heap.size = base ∧ l.flags = flags0 ∧ (Jvm.Cond.and given_1 narrow_1).before #[Value.ref b] s = true
/-! the class's step, up to its throw -/
section STP
variable {call : am_I → List Value → am_St → Option (Option Value × am_St)} {mi : am_I} {pc : Nat} {L : am_L} {S : List Value} {σ : am_St}
theorem wk_s {f pc' : Nat} {L' : am_L} {S' : List Value} {σ' : am_St} {r : Nat × am_L × List Value × am_St} {ins : Instr} {len : Nat} (hd : decode mi.2.2.1 pc = .ok (ins, len)) (h : am_ins call mi ins len pc L S σ = am_nx pc' L' S' σ') (k : am_wk call mi f pc' L' S' σ' = some r) : am_wk call mi (f + 1) pc L S σ = some r := by
  unfold am_wk
  rw [am_step, hd]
  dsimp only
  rw [h]
  exact k
theorem i_getI {idx ci j k : Nat} (hf : am_fld mi.1 idx = some (ci, j)) (ht : am_isR (am_ty ci j) = false) (hk : g_o σ k ci) : am_ins call mi (.getfield idx) 3 pc L (.ref k :: S) σ = am_nx (pc + 3) L (.int (g_I σ k j) :: S) σ := by
  show am_get mi idx pc L (.ref k :: S) σ = _
  unfold am_get
  have hk' : k < σ.1 ∧ (σ.2.2.1 k).1 = ci + 4 := hk
  simp only [hf, ht]
  rw [if_pos hk']
  rfl
theorem i_getR {idx ci j k q : Nat} (hf : am_fld mi.1 idx = some (ci, j)) (ht : am_isR (am_ty ci j) = true) (hk : g_o σ k ci) (hq : g_R σ k j = some q) : am_ins call mi (.getfield idx) 3 pc L (.ref k :: S) σ = am_nx (pc + 3) L (.ref q :: S) σ := by
  show am_get mi idx pc L (.ref k :: S) σ = _
  unfold am_get
  have hk' : k < σ.1 ∧ (σ.2.2.1 k).1 = ci + 4 := hk
  have hq' : σ.2.2.2.2 k j = some q := hq
  simp only [hf, ht]
  rw [if_pos hk', hq']
  rfl
theorem i_ifT {c : ClassFile.Cond} {off : Int} {x : Int32} (t : Nat) (ht : (pc : Int) + off = (t : Int)) (hc : am_cmp c x 0 = true) : am_ins call mi (.ifCond c off) 3 pc L (.int x :: S) σ = am_nx t L S σ := by
  show am_bra (.ifCond c off) pc L (.int x :: S) σ = _
  have h0 : 0 ≤ (pc : Int) + off := by omega
  have h1 : ((pc : Int) + off).toNat = t := by omega
  unfold am_bra am_jp
  simp only [hc, if_true, if_pos h0, h1]
  rfl
theorem i_ifF {c : ClassFile.Cond} {off : Int} {x : Int32} (ht : 0 ≤ (pc : Int) + off) (hc : am_cmp c x 0 = false) : am_ins call mi (.ifCond c off) 3 pc L (.int x :: S) σ = am_nx (pc + 3) L S σ := by
  show am_bra (.ifCond c off) pc L (.int x :: S) σ = _
  unfold am_bra
  simp only [hc, Bool.false_eq_true, if_false, if_pos ht]
theorem i_icT {c : ClassFile.Cond} {off : Int} {x y : Int32} (t : Nat) (ht : (pc : Int) + off = (t : Int)) (hc : am_cmp c x y = true) : am_ins call mi (.if_icmp c off) 3 pc L (.int y :: .int x :: S) σ = am_nx t L S σ := by
  show am_bra (.if_icmp c off) pc L (.int y :: .int x :: S) σ = _
  have h0 : 0 ≤ (pc : Int) + off := by omega
  have h1 : ((pc : Int) + off).toNat = t := by omega
  unfold am_bra am_jp
  simp only [hc, if_true, if_pos h0, h1]
  rfl
theorem i_icF {c : ClassFile.Cond} {off : Int} {x y : Int32} (ht : 0 ≤ (pc : Int) + off) (hc : am_cmp c x y = false) : am_ins call mi (.if_icmp c off) 3 pc L (.int y :: .int x :: S) σ = am_nx (pc + 3) L S σ := by
  show am_bra (.if_icmp c off) pc L (.int y :: .int x :: S) σ = _
  unfold am_bra
  simp only [hc, Bool.false_eq_true, if_false, if_pos ht]
end STP
theorem dX11_step_0 : decode cX11_step 0 = .ok (.aload_n 0, 1) := by decide +kernel
theorem dX11_step_1 : decode cX11_step 1 = .ok (.getfield 29, 3) := by decide +kernel
theorem dX11_step_4 : decode cX11_step 4 = .ok (.getfield 131, 3) := by decide +kernel
theorem dX11_step_7 : decode cX11_step 7 = .ok (.iconst (-1), 1) := by decide +kernel
theorem dX11_step_8 : decode cX11_step 8 = .ok (.if_icmp .eq 28, 3) := by decide +kernel
theorem dX11_step_11 : decode cX11_step 11 = .ok (.iload_n 1, 1) := by decide +kernel
theorem dX11_step_12 : decode cX11_step 12 = .ok (.ifCond .lt 24, 3) := by decide +kernel
theorem dX11_step_15 : decode cX11_step 15 = .ok (.iload_n 1, 1) := by decide +kernel
theorem dX11_step_16 : decode cX11_step 16 = .ok (.aload_n 0, 1) := by decide +kernel
theorem dX11_step_17 : decode cX11_step 17 = .ok (.getfield 29, 3) := by decide +kernel
theorem dX11_step_20 : decode cX11_step 20 = .ok (.getfield 122, 3) := by decide +kernel
theorem dX11_step_23 : decode cX11_step 23 = .ok (.if_icmp .ge 13, 3) := by decide +kernel
theorem dX11_step_26 : decode cX11_step 26 = .ok (.iload_n 2, 1) := by decide +kernel
theorem dX11_step_27 : decode cX11_step 27 = .ok (.ifCond .lt 9, 3) := by decide +kernel
theorem dX11_step_30 : decode cX11_step 30 = .ok (.iload_n 2, 1) := by decide +kernel
theorem dX11_step_31 : decode cX11_step 31 = .ok (.bipush 6, 2) := by decide +kernel
theorem dX11_step_33 : decode cX11_step 33 = .ok (.if_icmp .lt 11, 3) := by decide +kernel
theorem dX11_step_36 : decode cX11_step 36 = .ok (.new 176, 3) := by decide +kernel
theorem dX11_step_39 : decode cX11_step 39 = .ok (.dup, 1) := by decide +kernel
theorem dX11_step_40 : decode cX11_step 40 = .ok (.invokespecial 178, 3) := by decide +kernel
theorem dX11_step_43 : decode cX11_step 43 = .ok (.athrow, 1) := by decide +kernel
theorem dX11_step_44 : decode cX11_step 44 = .ok (.aload_n 0, 1) := by decide +kernel
theorem dX11_step_45 : decode cX11_step 45 = .ok (.getfield 29, 3) := by decide +kernel
theorem dX11_step_48 : decode cX11_step 48 = .ok (.getfield 179, 3) := by decide +kernel
theorem dX11_step_51 : decode cX11_step 51 = .ok (.iload_n 1, 1) := by decide +kernel
theorem dX11_step_52 : decode cX11_step 52 = .ok (.bipush 6, 2) := by decide +kernel
theorem dX11_step_54 : decode cX11_step 54 = .ok (.imul, 1) := by decide +kernel
theorem dX11_step_55 : decode cX11_step 55 = .ok (.iload_n 2, 1) := by decide +kernel
theorem dX11_step_56 : decode cX11_step 56 = .ok (.iadd, 1) := by decide +kernel
theorem dX11_step_57 : decode cX11_step 57 = .ok (.iaload, 1) := by decide +kernel
theorem dX11_step_58 : decode cX11_step 58 = .ok (.ireturn, 1) := by decide +kernel
theorem st_walk {call : am_I → List Value → am_St → Option (Option Value × am_St)} {σ : am_St} {x y : Int32} (hk : g_o σ 0 11) (hR : g_R σ 0 5 = some 102) (hj : g_o σ 102 2) (ht : lw_thr σ x y) : ∃ f, am_wk call mX11_step f 0 [some (.ref 0), some (.int x), some (.int y)] [] σ = some (36, [some (.ref 0), some (.int x), some (.int y)], [], σ) := by
  by_cases c1 : g_I σ 102 3 = -1
  · exact ⟨5, wk_s dX11_step_0 rfl (wk_s dX11_step_1 (i_getR f_11_29 rfl hk hR) (wk_s dX11_step_4 (i_getI f_11_131 rfl hj) (wk_s dX11_step_7 rfl (wk_s dX11_step_8 (i_icT 36 (by decide) (decide_eq_true c1)) rfl))))⟩
  by_cases c2 : x < 0
  · exact ⟨7, wk_s dX11_step_0 rfl (wk_s dX11_step_1 (i_getR f_11_29 rfl hk hR) (wk_s dX11_step_4 (i_getI f_11_131 rfl hj) (wk_s dX11_step_7 rfl (wk_s dX11_step_8 (i_icF (by decide) (decide_eq_false c1)) (wk_s dX11_step_11 rfl (wk_s dX11_step_12 (i_ifT 36 (by decide) (decide_eq_true c2)) rfl))))))⟩
  by_cases c3 : g_I σ 102 4 ≤ x
  · exact ⟨12, wk_s dX11_step_0 rfl (wk_s dX11_step_1 (i_getR f_11_29 rfl hk hR) (wk_s dX11_step_4 (i_getI f_11_131 rfl hj) (wk_s dX11_step_7 rfl (wk_s dX11_step_8 (i_icF (by decide) (decide_eq_false c1)) (wk_s dX11_step_11 rfl (wk_s dX11_step_12 (i_ifF (by decide) (decide_eq_false c2)) (wk_s dX11_step_15 rfl (wk_s dX11_step_16 rfl (wk_s dX11_step_17 (i_getR f_11_29 rfl hk hR) (wk_s dX11_step_20 (i_getI f_11_122 rfl hj) (wk_s dX11_step_23 (i_icT 36 (by decide) (decide_eq_true c3)) rfl)))))))))))⟩
  by_cases c4 : y < 0
  · exact ⟨14, wk_s dX11_step_0 rfl (wk_s dX11_step_1 (i_getR f_11_29 rfl hk hR) (wk_s dX11_step_4 (i_getI f_11_131 rfl hj) (wk_s dX11_step_7 rfl (wk_s dX11_step_8 (i_icF (by decide) (decide_eq_false c1)) (wk_s dX11_step_11 rfl (wk_s dX11_step_12 (i_ifF (by decide) (decide_eq_false c2)) (wk_s dX11_step_15 rfl (wk_s dX11_step_16 rfl (wk_s dX11_step_17 (i_getR f_11_29 rfl hk hR) (wk_s dX11_step_20 (i_getI f_11_122 rfl hj) (wk_s dX11_step_23 (i_icF (by decide) (decide_eq_false c3)) (wk_s dX11_step_26 rfl (wk_s dX11_step_27 (i_ifT 36 (by decide) (decide_eq_true c4)) rfl)))))))))))))⟩
  have c5 : ¬ y < 6 := by
    rcases ht with q | q | q | q | q
    · exact absurd q c1
    · exact absurd q c2
    · exact absurd q c3
    · exact absurd q c4
    · exact Int32.not_lt.mpr q
  exact ⟨17, wk_s dX11_step_0 rfl (wk_s dX11_step_1 (i_getR f_11_29 rfl hk hR) (wk_s dX11_step_4 (i_getI f_11_131 rfl hj) (wk_s dX11_step_7 rfl (wk_s dX11_step_8 (i_icF (by decide) (decide_eq_false c1)) (wk_s dX11_step_11 rfl (wk_s dX11_step_12 (i_ifF (by decide) (decide_eq_false c2)) (wk_s dX11_step_15 rfl (wk_s dX11_step_16 rfl (wk_s dX11_step_17 (i_getR f_11_29 rfl hk hR) (wk_s dX11_step_20 (i_getI f_11_122 rfl hj) (wk_s dX11_step_23 (i_icF (by decide) (decide_eq_false c3)) (wk_s dX11_step_26 rfl (wk_s dX11_step_27 (i_ifF (by decide) (decide_eq_false c4)) (wk_s dX11_step_30 rfl (wk_s dX11_step_31 rfl (wk_s dX11_step_33 (i_icF (by decide) (decide_eq_false c5)) rfl))))))))))))))))⟩
def lw_xN : String := "java/util/NoSuchElementException"
def lw_xs : List String := ["java/lang/RuntimeException", "java/lang/Exception"]
def lw_bad : List Cond := (Cond.classLink RX11 176 lw_xN :: Cond.initialized lw_xN :: vx_at0 RX11 178 lw_xN lw_xs).filter (fun w => !goodWord w)
theorem lw_bad_ok : lw_bad.all (fun w => match w with | .castable _ _ => true | .declares _ => true | _ => false) = true := by decide +kernel
theorem lw_bad_warm {s U : State} (hW : s.WarmedH U.vm) {w : Cond} (hw : w ∈ lw_bad) (h : va_Nw w s) : va_Nw w U := by
  have h1 := List.all_eq_true.mp lw_bad_ok w hw
  match w, h1, h with
  | .castable _ _, _, h => exact va_Nw.warmC hW h
  | .declares _, _, h => exact va_Nw.warmD hW h
/-- what a throw needs of the start -/
def lw_X (base : Nat) (U : State) : Prop := vx_Zq Bundle.tN "UNASSIGNED_STACK" Bundle.steD (fun a => base ≤ a) U U.heap ∧ vx_Zq Bundle.tN "SUPPRESSED_SENTINEL" Bundle.listD (fun a => base ≤ a) U U.heap ∧ ∀ w ∈ lw_bad, va_Nw w U
theorem lw_X.to {base : Nat} {s U : State} {locs : List Loc} (h : lw_X base s) (hW : s.WarmedH U.vm) (hS : va_S (fun a => base ≤ a) s.heap U.heap locs) : lw_X base U :=
  ⟨vx_Zq.moved hW.alike (h.1.kept hS.2.1), vx_Zq.moved hW.alike (h.2.1.kept hS.2.1), fun w hw => lw_bad_warm hW hw (h.2.2 w hw)⟩
set_option maxRecDepth 100000 in
theorem lw_xgood : (Cond.classLink RX11 176 lw_xN :: Cond.initialized lw_xN :: vx_at0 RX11 178 lw_xN lw_xs).all vx_ot = true := by decide +kernel
theorem lw_xin : ∀ w ∈ (Cond.classLink RX11 176 lw_xN :: Cond.initialized lw_xN :: vx_at0 RX11 178 lw_xN lw_xs).filter goodWord, w ∈ lw_good := by
  intro w hw
  have h1 : ((Cond.classLink RX11 176 lw_xN :: Cond.initialized lw_xN :: vx_at0 RX11 178 lw_xN lw_xs).filter goodWord).all (fun w => [1, 2, 3, 4, 5, 6, 7, 8, 9].any (fun c => decide (w ∈ am_ch c))) = true := by decide +kernel
  obtain ⟨c, -, hc⟩ := List.any_eq_true.mp (List.all_eq_true.mp h1 w hw)
  exact am_ch_mem c (of_decide_eq_true hc) (List.mem_filter.mp hw).2
theorem lw_xwords {s : State} {args : Array Value} (hg : ∀ w ∈ lw_good, w.before args s = true) (hb : ∀ w ∈ lw_bad, va_Nw w s) : ∀ w ∈ (Cond.classLink RX11 176 lw_xN :: Cond.initialized lw_xN :: vx_at0 RX11 178 lw_xN lw_xs), w.before args s = true := by
  intro w hw
  by_cases g : goodWord w = true
  · exact hg w (lw_xin w (List.mem_filter.mpr ⟨hw, g⟩))
  · have hwb : w ∈ lw_bad := List.mem_filter.mpr ⟨hw, by simpa using g⟩
    have h1 := List.all_eq_true.mp lw_bad_ok w hwb
    match w, h1, hb w hwb with
    | .castable _ _, _, h => exact va_Nw.use rfl h
    | .declares _, _, h => exact va_Nw.use rfl h
def st_rm : Room := { frames := 20, cells := 1, slots := 6, locals := 800 }
set_option maxRecDepth 100000 in
/-- the class's step where it throws -/
theorem st_met (l : Launch) (hfl : l.flags = flags0) (D : va_G) (cA : Nat → ClassId) (base sz : Nat) (σ : am_St) (x y : Int32) (hk : g_o σ 0 11) (hR : g_R σ 0 5 = some 102) (hj : g_o σ 102 2) (ht : lw_thr σ x y) :
    vx_Met l mX11_step.2.1 (am_wd mX11_step) st_rm (va_Pc [.ref (base + 0), .int x, .int y] (fun U => am_P D cA base sz σ U ∧ lw_X base U)) (va_Qi (fun (_ : Int32) (_ : Unit) => False) (fun _ _ => True) (am_A base sz σ.1)) (vx_X (fun _ : Unit => True) (fun E _ t => E = lw_xN ∧ va_P D vwCl (am_wl cA base σ) t.heap) (am_A base sz σ.1)) 1 6 (am_A base sz σ.1) := by
  refine vx_ofW (cc := cX11_step) (maxL := 3) (ret := some .int) (by decide) rfl ?_
  intro p e s m args below meth c s₁ B hml hempty hv
  obtain ⟨rfl, ⟨hsz, hP, hK⟩, hX⟩ := hv
  have hts := atoms_spec (ws := am_wd mX11_step) B.pre
  have hg : ∀ w ∈ lw_good, w.before _ s = true := fun w hw => hts w (List.mem_cons_of_mem _ hw)
  have hown : s.vm.findClass RX11 = some m.cls := findClass_of_methodNamed B.named
  have hC : am_Cx p st_rm s m [.ref (base + 0), .int x, .int y].toArray meth c D cA base sz σ.1 σ.2.1 σ.1 σ.2.1 5 mX11_step := ⟨B.exec, B.bytes, B.returns, hml, hown, hg, B.notSynchronized, (name_of_methodNamed B.named B.method).1, hK, ⟨hsz, Or.inl (Nat.le_refl _)⟩, by decide, by decide, by rw [Nat.sub_self]; decide, by rw [Nat.sub_self]; decide⟩
  obtain ⟨f, hf⟩ := st_walk (call := am_run 5) hk hR hj ht
  have hl := lv_entry ([.ref (base + 0), .int x, .int y]) (n := 3) (Nat.le_of_ble_eq_true rfl)
  rw [lg_entry_eq]
  generalize (lg_sl ([.ref (base + 0), .int x, .int y]) ++ List.replicate (3 - (lg_sl ([.ref (base + 0), .int x, .int y])).length) Slot.unset).toArray = ls at hl ⊢
  have hl : lv_has ls 3 [(0, .ref (base + 0)), (1, .int x), (2, .int y)] := hl
  have hlr : am_lr base mX11_step.2.2.2.1 mX11_step.2.2.2.2.2.2 [some (.ref 0), some (.int x), some (.int y)] ls := by
    refine ⟨hl.1, hl.2.1, fun i v hi => ?_, fun _ i v hi => ?_⟩
    · match i, hi with
      | 0, hi => cases hi; exact lv_at hl 0 rfl
      | 1, hi => cases hi; exact lv_at hl 1 rfl
      | 2, hi => cases hi; exact lv_at hl 2 rfl
      | i + 3, hi => simp at hi
    · match i, hi with
      | 0, hi => cases hi; rfl
      | 1, hi => cases hi; rfl
      | 2, hi => cases hi; rfl
      | i + 3, hi => simp at hi
  have key := am_s_wk (below := below) (e := e) (l := l) (Q := vx_MQ below (va_Qi (fun (_ : Int32) (_ : Unit) => False) (fun _ _ => True) (am_A base sz σ.1)) (vx_X (fun _ : Unit => True) (fun E _ t => E = lw_xN ∧ va_P D vwCl (am_wl cA base σ) t.heap) (am_A base sz σ.1)) [.ref (base + 0), .int x, .int y].toArray s 1 6 (am_A base sz σ.1)) hC (am_sound l D cA base 5) (am_up_run 5) f 0 _ _ σ hf (Nat.le_refl _) (Nat.le_refl _) ?_ s.heap [] ls ⟨hP, va_S.rf, hlr⟩
  · rw [Nat.sub_self, Nat.sub_self] at key
    exact key
  · intro H locs ls hp
    rw [Nat.sub_self, Nat.sub_self]
    have hw := lw_xwords hg hX.2.2
    have hgood := List.all_eq_true.mp lw_xgood
    refine vx_throw0 (A := am_A base sz σ.1) (own := RX11) (cls := lw_xN) (names := lw_xs) (ik := 176) (ic := 178) B.exec B.bytes (by unfold Launch.stackTraces; rw [hfl]; decide +kernel) hown (by decide +kernel) (by decide +kernel) (hw _ List.mem_cons_self) (hw _ (List.mem_cons_of_mem _ List.mem_cons_self)) (fun w h => hw w (List.mem_cons_of_mem _ (List.mem_cons_of_mem _ h))) hgood (hX.1.narrow (fun q h => h.1)) (hX.2.1.narrow (fun q h => h.1)) hp.2.1 (hp.2.2.1.trans hml.symm) dX11_step_36 dX11_step_39 dX11_step_40 dX11_step_43 (fun z hz => (hempty z hz).elim) (by decide) (show 0 + (13 * (2 + 1) + 42) ≤ 800 by decide) (by decide) (by decide) B.notSynchronized (fun t ha h1 h2 => ?_) hp.2.1.2.2 (by decide) (by decide)
    refine ⟨(), trivial, ⟨rfl, hp.1.kept (fun k z hz => h2 z.1 (hp.1 k z hz).lt)⟩, Nat.le_trans hp.2.1.1 h1, fun a h3 h4 => ?_⟩
    rw [h2 a (Nat.lt_of_lt_of_le h3 hp.2.1.1)]
    exact hp.2.1.2.1 a h3 h4
/-! the law's own step(x, a, b, out) -/
def lw_hh : List (Nat × Nat × Nat × Nat) := [(0, 10, 13, 13)]
def lw_hw : List Cond := .codeWith yL_step cL_step 5 (some .int) lw_hh :: lw_good
def lw_HP (D : va_G) (cA : Nat → ClassId) (cJ : ClassId) (base q sz : Nat) (σ : am_St) (f : Nat → Int64) (x y : Int32) : Array Value → State → Prop := va_Pc [.ref (base + 0), .int x, .int y, .ref q] (fun U => U.heap.size = sz ∧ va_P D vwCl (am_wl cA base σ) U.heap ∧ U.heap[q]? = some (vp_cell cJ (1, .inr (.inl f))) ∧ am_K D cA U ∧ (ArrOfT U cJ .long ∧ va_RA U cJ .long) ∧ lw_X base U)
def lw_HQ (D : va_G) (cA : Nat → ClassId) (cJ : ClassId) (base q : Nat) (σ : am_St) (kv : Int32) (F : (Nat → Int64) → Prop) : Array Value → State → Outcome → State → Prop := fun _ st oc t => oc = .returned (some (.int kv)) ∧ ∃ f1, F f1 ∧ va_P D vwCl (am_wl cA base σ) t.heap ∧ t.heap[q]? = some (vp_cell cJ (1, .inr (.inl f1))) ∧ st.heap.size ≤ t.heap.size ∧ (∀ a, a < st.heap.size → ¬ base ≤ a → t.heap[a]? = st.heap[a]?)
def lw_hrm : Room := { frames := 2010, cells := 1, slots := 6, locals := 82000 }
theorem mt_13_7 : am_mth 13 7 0 = some mX11_step := rfl
set_option maxRecDepth 100000 in
/-- it doesn't throw -/
theorem hp_metA (l : Launch) (D : va_G) (cA : Nat → ClassId) (cJ : ClassId) (base q sz : Nat) (σ : am_St) (f : Nat → Int64) (x y r : Int32) (hk : g_o σ 0 11) (hq1 : base + σ.1 ≤ q) (hrun : am_run 1900 mX11_step [.ref 0, .int x, .int y] σ = some (some (.int r), σ)) :
    Met l yL_step lw_hw lw_hrm (lw_HP D cA cJ base q sz σ f x y) (lw_HQ D cA cJ base q σ 0 (fun f1 => f1 0 = r.toInt64)) 1 6 (fun a => base ≤ a) := by
  refine va_MetW (cc := cL_step) (maxL := 5) (ret := some .int) (hh := lw_hh) (by decide) rfl ?_
  intro p e s m args below meth c s₁ B hml hv
  obtain ⟨rfl, hsz, hP, hq, hK, hJ, hX⟩ := hv
  have hx := B.exec
  have hb := B.bytes
  have hr := B.returns
  have hts := atoms_spec (ws := lw_hw) B.pre
  have hg : ∀ w ∈ lw_good, w.before _ s = true := fun w hw => hts w (List.mem_cons_of_mem _ hw)
  have hown : s.vm.findClass RL = some m.cls := findClass_of_methodNamed B.named
  have hlocks := B.notSynchronized
  have hl := lv_entry ([.ref (base + 0), .int x, .int y, .ref q]) (n := 5) (Nat.le_of_ble_eq_true rfl)
  rw [lg_entry_eq]
  generalize (lg_sl ([.ref (base + 0), .int x, .int y, .ref q]) ++ List.replicate (5 - (lg_sl ([.ref (base + 0), .int x, .int y, .ref q])).length) Slot.unset).toArray = ls at hl ⊢
  have hl : lv_has ls 5 [(0, .ref (base + 0)), (1, .int x), (2, .int y), (3, .ref q)] := hl
  refine lv_aload_n hx hb dL_step_0 rfl (lv_at hl 3 rfl) ?_
  refine lv_iconst (v := 0) hx hb dL_step_1 (by decide) ?_
  refine lv_aload_n hx hb dL_step_2 rfl (lv_at hl 0 rfl) ?_
  refine lv_iload_n hx hb dL_step_3 rfl (lv_at hl 1 rfl) ?_
  refine lv_iload_n hx hb dL_step_4 rfl (lv_at hl 2 rfl) ?_
  obtain ⟨hgd, hln, hi, hvv, -, -⟩ := am_mth_ok mt_13_7
  obtain ⟨w1, w2, h13⟩ := hvv rfl
  obtain ⟨hM0, hm20⟩ := am_sound l D cA base 1900 mX11_step _ _ _ _ hgd hrun
  have hM := hM0 s.heap.size (Or.inl (Nat.le_refl _))
  have hqlt : q < s.heap.size := (Array.getElem?_eq_some_iff.mp hq).1
  have hPc : ∀ U : State, U.heap = s.heap → s.WarmedH U.vm → va_Pc ([Value.ref 0, .int x, .int y].map (am_v base)) (am_P D cA base s.heap.size σ) (Value.ref (base + 0) :: [.int x, .int y]).toArray U := fun U hU hW => ⟨rfl, by rw [hU], by rw [hU]; exact hP, am_K.moved hW.alike hK⟩
  have hrun2 := va_runV (p := p) (e := e) (below := below) (meth := meth) (locs := []) (cells := 0) (slots := 0) (C := RX11) (b := base + 0) (As := [.int x, .int y]) (rest := [.int 0, .ref q]) (g := F0 m 5 ls (.int y :: .int x :: .ref (base + 0) :: [.int 0, .ref q])) (R := (headSpec lw_hw lw_hrm).room) (n := 2) (index := 7) (own := RL) (Ts := lw_good) (cc := cL_step) (nL := 5) ⟨hx, hb, hml, hown, hg⟩ hM ⟨am_callB hg (d := 1900) (by decide) (by decide) hgd hm20 hln hi, hg _ w1, hg _ w2⟩ ⟨am_Pblind, va_recv hK.1 hP (am_cl_ok 11 h13) (by rw [am_wl_at hk.1, am_cell_obj hk.2]), hPc⟩ rfl rfl hl.1 rfl (lv_room (Nat.le_of_ble_eq_true rfl)) dL_step_5 ⟨by rw [Nat.sub_self]; decide, by rw [Nat.sub_self]; decide⟩
  intro T hT Y
  obtain ⟨v, st₀, t, T', Lo, h0, Y', hLo, e1, e2, ⟨hv', ⟨hsz1, hP1, -⟩, hF1, hF2⟩, st⟩ := hrun2 T hT Y
  have hv2 : v = some (.int r) := by cases hv'; rfl
  subst hv2
  rw [h0] at hF1 hF2
  have hnA : ¬ am_A base s.heap.size σ.1 q := fun z => by
    rcases z.2 with z | z
    · omega
    · omega
  have hS1 : va_S (fun a => base ≤ a) s.heap T'.heap ([] ++ Lo) := ⟨by rw [e1]; exact hF1, fun a h1 h2 => by rw [e1, hF2 a h1 (fun z => h2 z.1)], fun a ha => (hLo a ha).1⟩
  have hq' : T'.heap[q]? = some (vp_cell cJ (1, .inr (.inl f))) := by rw [e1, hF2 q hqlt hnA]; exact hq
  have hP' : va_P D vwCl (am_wl cA base σ) T'.heap := by rw [e1]; exact hP1
  have k1 : W p l e (headSpec lw_hw lw_hrm).room s m [Value.ref (base + 0), .int x, .int y, .ref q].toArray below meth c T'.heap ([] ++ Lo) (0 + (σ.1 - σ.1)) (0 + (σ.2.1 - σ.2.1)) (MQ below (lw_HQ D cA cJ base q σ 0 (fun f1 => f1 0 = r.toInt64)) [Value.ref (base + 0), .int x, .int y, .ref q].toArray s 1 6 (fun a => base ≤ a)) (F0 m 8 ls [.int r, .int 0, .ref q]) := by
    have hPo : va_P D vwCl (am_wl cA base σ ++ [(q, .inl (cJ, 1, .inr (.inl f)))]) T'.heap := hP'.app (fun k z hz => by
      match k, hz with
      | 0, hz => cases hz; exact hq'
      | k + 1, hz => simp at hz)
    have hlen : (am_wl cA base σ).length = σ.1 := by simp [am_wl]
    have hat : (am_wl cA base σ ++ [(q, .inl (cJ, 1, .inr (.inl f)))])[σ.1]? = some (q, .inl (cJ, 1, .inr (.inl f))) := by rw [List.getElem?_append_right (by omega)]; simp [hlen]
    have hDo : va_D (fun a => base ≤ a) (am_wl cA base σ ++ [(q, .inl (cJ, 1, .inr (.inl f)))]) := by
      have e9 : ∀ k z, (am_wl cA base σ ++ [(q, .inl (cJ, 1, .inr (.inl f)))])[k]? = some z → (k < σ.1 ∧ z.1 = base + k) ∨ (k = σ.1 ∧ z.1 = q) := by
        intro k z hz
        by_cases hk9 : k < σ.1
        · rw [List.getElem?_append_left (by omega)] at hz
          obtain ⟨-, rfl⟩ := am_wl_of hz
          exact Or.inl ⟨hk9, rfl⟩
        · rw [List.getElem?_append_right (by omega)] at hz
          have hz9 : k - (am_wl cA base σ).length < 1 := (List.getElem?_eq_some_iff.mp hz).1
          rw [show k - (am_wl cA base σ).length = 0 by omega] at hz
          cases hz
          exact Or.inr ⟨by omega, rfl⟩
      refine ⟨fun i j a b hi hj hab => ?_, fun k z hz => ?_⟩
      · rcases e9 i a hi with ⟨h1, h2⟩ | ⟨h1, h2⟩ <;> rcases e9 j b hj with ⟨h3, h4⟩ | ⟨h3, h4⟩ <;> omega
      · rcases e9 k z hz with ⟨h1, h2⟩ | ⟨h1, h2⟩
        · show base ≤ z.1
          omega
        · show base ≤ z.1
          omega
    have hKo : va_K D vwCl [(cJ, .long)] s := ⟨hK.1.1, fun k z hz => by
      match k, hz with
      | 0, hz => cases hz; exact hJ
      | k + 1, hz => simp at hz⟩
    refine lv_i2l hx hb dL_step_8 rfl ?_
    refine va_last (A := fun a => base ≤ a) hx hb hKo hPo hDo hS1 σ.1 0 hat rfl (by unfold vp_in; decide) dL_step_9 (fun H2 locs2 hP2 _ hS2 => ?_)
    refine lv_goto (tgt := 17) hx hb dL_step_10 (by decide) ?_
    refine lv_iconst (v := 0) hx hb dL_step_17 (by decide) ?_
    refine W.widen (k := 1) (n := 6) (by omega) (by omega) ?_
    have hP3 : va_P D vwCl (am_wl cA base σ) H2 := fun k z hz => by
      obtain ⟨hk9, rfl⟩ := am_wl_of hz
      refine hP2 k _ ?_
      rw [List.getElem?_set_ne (by omega), List.getElem?_append_left (by omega)]
      exact hz
    have hq3 : H2[q]? = some (vp_cell cJ (1, .inr (.inl (vp_updL f (0 : Int32).toNatClampNeg r.toInt64)))) := hP2 σ.1 _ (List.getElem?_set_self (by rw [List.length_append, hlen]; simp))
    exact W.iret (v := 0) hx hb hr (fun t ht hW => ⟨rfl, vp_updL f (0 : Int32).toNatClampNeg r.toInt64, rfl, by rw [ht]; exact hP3, by rw [ht]; exact hq3, by rw [ht]; exact hS2.1, fun a h1 h2 => by rw [ht]; exact hS2.2.1 a h1 h2⟩) hS2.2.2 dL_step_18
  obtain ⟨t2, a1, b1⟩ := k1 T' rfl Y'
  exact ⟨t2, st t2 a1, b1⟩
set_option maxRecDepth 100000 in
theorem lw_cl13 : Cond.classLink RL 13 lw_xN ∈ lw_good := by
  have h1 : [1, 2, 3, 4, 5, 6, 7, 8, 9].any (fun c => decide (Cond.classLink RL 13 lw_xN ∈ am_ch c)) = true := by decide +kernel
  obtain ⟨c, -, hc⟩ := List.any_eq_true.mp h1
  exact am_ch_mem c (of_decide_eq_true hc) rfl
theorem lw_castIn : Cond.castable lw_xN lw_xN ∈ lw_bad := by decide +kernel
set_option maxRecDepth 100000 in
/-- it throws -/
theorem hp_metB (l : Launch) (hfl : l.flags = flags0) (D : va_G) (cA : Nat → ClassId) (cJ : ClassId) (base q sz : Nat) (σ : am_St) (f : Nat → Int64) (x y : Int32) (hk : g_o σ 0 11) (hR : g_R σ 0 5 = some 102) (hj : g_o σ 102 2) (hq1 : base + σ.1 ≤ q) (ht : lw_thr σ x y) :
    Met l yL_step lw_hw lw_hrm (lw_HP D cA cJ base q sz σ f x y) (lw_HQ D cA cJ base q σ 1 (fun f1 => f1 = f)) 1 6 (fun a => base ≤ a) := by
  refine va_MetW (cc := cL_step) (maxL := 5) (ret := some .int) (hh := lw_hh) (by decide) rfl ?_
  intro p e s m args below meth c s₁ B hml hv
  obtain ⟨rfl, hsz, hP, hq, hK, hJ, hX⟩ := hv
  have hx := B.exec
  have hb := B.bytes
  have hr := B.returns
  have hts := atoms_spec (ws := lw_hw) B.pre
  have hg : ∀ w ∈ lw_good, w.before _ s = true := fun w hw => hts w (List.mem_cons_of_mem _ hw)
  have hown : s.vm.findClass RL = some m.cls := findClass_of_methodNamed B.named
  have hlocks := B.notSynchronized
  have htab : c.exceptionTable.toList = tableOf lw_hh := vx_table (x := yL_step) B (hts _ List.mem_cons_self)
  have hl := lv_entry ([.ref (base + 0), .int x, .int y, .ref q]) (n := 5) (Nat.le_of_ble_eq_true rfl)
  rw [lg_entry_eq]
  generalize (lg_sl ([.ref (base + 0), .int x, .int y, .ref q]) ++ List.replicate (5 - (lg_sl ([.ref (base + 0), .int x, .int y, .ref q])).length) Slot.unset).toArray = ls at hl ⊢
  have hl : lv_has ls 5 [(0, .ref (base + 0)), (1, .int x), (2, .int y), (3, .ref q)] := hl
  refine lv_aload_n hx hb dL_step_0 rfl (lv_at hl 3 rfl) ?_
  refine lv_iconst (v := 0) hx hb dL_step_1 (by decide) ?_
  refine lv_aload_n hx hb dL_step_2 rfl (lv_at hl 0 rfl) ?_
  refine lv_iload_n hx hb dL_step_3 rfl (lv_at hl 1 rfl) ?_
  refine lv_iload_n hx hb dL_step_4 rfl (lv_at hl 2 rfl) ?_
  obtain ⟨hgd, hln, hi, hvv, -, -⟩ := am_mth_ok mt_13_7
  obtain ⟨w1, w2, h13⟩ := hvv rfl
  have hM := st_met l hfl D cA base s.heap.size σ x y hk hR hj ht
  have hqlt : q < s.heap.size := (Array.getElem?_eq_some_iff.mp hq).1
  have hnA : ¬ am_A base s.heap.size σ.1 q := fun z => by
    rcases z.2 with z | z
    · omega
    · omega
  have hbs : base ≤ s.heap.size := by omega
  have hCB : CallB (headSpec lw_hw lw_hrm).room s [Value.ref (base + 0), .int x, .int y, .ref q].toArray RL 7 mX11_step.2.1 mX11_step.2.2.1 mX11_step.2.2.2.1 mX11_step.2.2.2.2.1 (am_wd mX11_step) st_rm 1 6 2 := by
    obtain ⟨hc9, ho⟩ := hgd
    simp only [am_okI, Bool.and_eq_true, decide_eq_true_eq, beq_iff_eq] at ho
    refine ⟨rfl, rfl, by decide, by decide, pay_in hg (fun w hw => ?_), List.mem_cons_self, hg _ hc9, hg _ hi, ⟨ho.1.1.2, ho.1.2⟩, fun sig h => ?_, hg _ hln⟩
    · rcases List.mem_cons.mp hw with rfl | hw
      · exact ⟨hc9, am_good_in hc9⟩
      · exact ⟨hw, am_good_in hw⟩
    · have h2 := ho.2
      rw [h] at h2
      exact (Option.some.inj h2).symm
  have hblind : FrameBlind (va_Pc [Value.ref (base + 0), .int x, .int y] (fun U => am_P D cA base s.heap.size σ U ∧ lw_X base U)) := fun _ U g mk z => ⟨z.1, ⟨z.2.1.1, z.2.1.2.1, am_K.moved (u := U) (U := U.calling g mk _) (Vm.Alike.refl U.vm) z.2.1.2.2⟩, ⟨vx_Zq.moved (u := U) (U := U.calling g mk _) (Vm.Alike.refl U.vm) z.2.2.1, vx_Zq.moved (u := U) (U := U.calling g mk _) (Vm.Alike.refl U.vm) z.2.2.2.1, fun w hw => (by
    have h1 := List.all_eq_true.mp lw_bad_ok w hw
    match w, h1, z.2.2.2.2 w hw with
    | .castable _ _, _, h => exact va_Nw.same rfl (show U.vm = (U.calling g mk _).vm from rfl) h
    | .declares _, _, h => exact va_Nw.same rfl (show U.vm = (U.calling g mk _).vm from rfl) h)⟩⟩
  refine vx_calli (A0 := fun a => base ≤ a) (H0 := s.heap) (a := (Value.ref (base + 0) :: [.int x, .int y]).toArray) (vx_runV (C := RX11) (b := base + 0) (As := [.int x, .int y]) (rest := [.int 0, .ref q]) (n := 2) (index := 7) (own := RL) (Ts := lw_good) (cc := cL_step) (nL := 5) ⟨hx, hb, hml, hown, hg⟩ hM ⟨hCB, hg _ w1, hg _ w2⟩ ⟨hblind, va_recv hK.1 hP (am_cl_ok 11 h13) (by rw [am_wl_at hk.1, am_cell_obj hk.2]), fun U hU hW => ⟨rfl, ⟨by rw [hU], by rw [hU]; exact hP, am_K.moved hW.alike hK⟩, hX.to (locs := []) hW (by rw [hU]; exact va_S.rf)⟩⟩ rfl rfl hl.1 rfl (lv_room (Nat.le_of_ble_eq_true rfl)) dL_step_5 ⟨by decide, by decide⟩) va_S.rf (fun a _ h => h.1) (fun a h => h.1) (fun a _ h => h.1) (fun E ce q9 u t H1 locs1 ht1 hal _ hBX hz1 hk1 hS1 hce hcv hcl => ?_) (fun r u t H1 locs1 _ _ hpost _ _ _ _ => hpost.elim)
  obtain ⟨rfl, hP1⟩ := hBX
  rw [ht1] at hP1
  have hq1' : H1[q]? = some (vp_cell cJ (1, .inr (.inl f))) := by rw [hk1 q hqlt hnA]; exact hq
  refine vx_catch (own := RL) (name := lw_xN) (E := lw_xN) (ce := ce) hown [] ⟨0, 10, 13, 13⟩ [] (by rw [htab]; rfl) (fun z hz => nomatch hz) (by decide) (by decide) (hg _ lw_cl13) (va_Nw.use rfl (hX.2.2 _ lw_castIn)) hce hcv hcl ?_
  refine lv_astore (lv' := [(4, .ref q9), (0, .ref (base + 0)), (1, .int x), (2, .int y), (3, .ref q)]) hx hb dL_step_13 hl (by decide) rfl (fun ls hl => ?_)
  refine lv_iconst (v := 1) hx hb dL_step_15 (by decide) ?_
  refine W.widen (k := 1) (n := 6) (by omega) (by omega) ?_
  exact W.iret (v := 1) hx hb hr (fun t ht hW => ⟨rfl, f, rfl, by rw [ht]; exact hP1, by rw [ht]; exact hq1', by rw [ht]; exact hS1.1, fun a h1 h2 => by rw [ht]; exact hS1.2.1 a h1 h2⟩) hS1.2.2 dL_step_16
theorem lw_sw : Cond.codeWith yL_step cL_step 5 (some .int) lw_hh ∈ lw_good ∧ Cond.methodLink RL 51 yL_step ∈ lw_good ∧ Cond.static yL_step ∈ lw_good ∧ Cond.initialized RL ∈ lw_good := by
  exact ⟨am_ch_mem 6 (List.mem_of_getElem? (i := 125) rfl) rfl, am_ch_mem 6 (List.mem_of_getElem? (i := 123) rfl) rfl, am_ch_mem 6 (List.mem_of_getElem? (i := 124) rfl) rfl, am_ch_mem 1 (List.mem_of_getElem? (i := 0) rfl) rfl⟩
section LWS
variable {p : Program} {l : Launch} {e : Env} {s : State} {m : MethodId} {below : List Frame} {meth : Method} {c : Code} {H : Heap} {locs : List Loc} {Q : State → Prop} {cells slots : Nat} {ls : Array Slot} {rest : List Value}
variable {D : va_G} {cA : Nat → ClassId} {cJ : ClassId} {base q b : Nat} {σ σ1 : am_St} {f : Nat → Int64}
theorem lw_Xof (hC : lw_Cx p l s m meth c D cA cJ base b) : lw_X base s := by
  obtain ⟨hx, hb, hr, hml, hown, hts, hlk, hK, hJ, hsz, hfl, hgv⟩ := hC
  have hs := flat_of_before _ hgv
  have hA : ∀ a : Nat, a < s.heap.size → ¬ base ≤ a := fun a h => by omega
  have i0 := hts (.initialized Bundle.tN) (am_ch_in 1 (List.mem_of_getElem? (i := 16) rfl))
  refine ⟨vx_Zqof (hts (.laysStatic Bundle.tN "UNASSIGNED_STACK" Bundle.steD) (am_ch_in 6 (List.mem_of_getElem? (i := 158) rfl))) i0 (hs _ (by decide +kernel)) hA, vx_Zqof (hts (.laysStatic Bundle.tN "SUPPRESSED_SENTINEL" Bundle.listD) (am_ch_in 6 (List.mem_of_getElem? (i := 160) rfl))) i0 (hs _ (by decide +kernel)) hA, fun w hw => ?_⟩
  have h1 : lw_bad.all (fun w => [1, 2, 3, 4, 5, 6, 7, 8, 9].any (fun c => decide (w ∈ am_ch c))) = true := by decide +kernel
  obtain ⟨c9, -, hc9⟩ := List.any_eq_true.mp (List.all_eq_true.mp h1 w hw)
  have h2 := hts w (am_ch_in c9 (of_decide_eq_true hc9))
  have h3 := List.all_eq_true.mp lw_bad_ok w hw
  match w, h3, h2 with
  | .castable _ _, _, h => exact va_Nw.of rfl h
  | .declares _, _, h => exact va_Nw.of rfl h
theorem lw_step_call {x y : Int32} (hC : lw_Cx p l s m meth c D cA cJ base b) (hV : lw_V s D cA cJ base q σ f H locs) (hls : ls.size = 7) (hcat : (rest.map fun v => v.category).sum ≤ 8) (hc : cells + 1 ≤ 600002) (hs : slots + 6 ≤ 7302232) (hk : g_o σ 0 11) (hR : g_R σ 0 5 = some 102) (hj : g_o σ 102 2)
    (kA : ∀ r, am_run 1900 mX11_step [.ref 0, .int x, .int y] σ = some (some (.int r), σ) → ∀ (H1 : Heap) (locs1 : List Loc) (f1 : Nat → Int64), lw_V s D cA cJ base q σ f1 H1 locs1 → f1 0 = r.toInt64 → W p l e room_1 s m #[Value.ref b] below meth c H1 locs1 (cells + 1) (slots + 6) Q (F0 m 352 ls (.int 0 :: rest)))
    (kB : lw_thr σ x y → ∀ (H1 : Heap) (locs1 : List Loc), lw_V s D cA cJ base q σ f H1 locs1 → W p l e room_1 s m #[Value.ref b] below meth c H1 locs1 (cells + 1) (slots + 6) Q (F0 m 352 ls (.int 1 :: rest)))
    (hor : (∃ r, am_run 1900 mX11_step [.ref 0, .int x, .int y] σ = some (some (.int r), σ)) ∨ lw_thr σ x y) :
    W p l e room_1 s m #[Value.ref b] below meth c H locs cells slots Q (F0 m 349 ls (.ref q :: .int y :: .int x :: .ref (base + 0) :: rest)) := by
  have hXs := lw_Xof hC
  obtain ⟨hx, hb, hr, hml, hown, hts, hlk, hK, hJ, hsz, hfl, hgv⟩ := hC
  obtain ⟨hP, hq, hqb, hS⟩ := hV
  have hg : ∀ w ∈ lw_good, w.before #[Value.ref b] s = true := fun w hw => hts w (List.mem_filter.mp hw).1
  have key : ∀ (kv : Int32) (F : (Nat → Int64) → Prop), Met l yL_step lw_hw lw_hrm (lw_HP D cA cJ base q H.size σ f x y) (lw_HQ D cA cJ base q σ kv F) 1 6 (fun a => base ≤ a) → (∀ (H1 : Heap) (locs1 : List Loc) (f1 : Nat → Int64), lw_V s D cA cJ base q σ f1 H1 locs1 → F f1 → W p l e room_1 s m #[Value.ref b] below meth c H1 locs1 (cells + 1) (slots + 6) Q (F0 m 352 ls (.int kv :: rest))) → W p l e room_1 s m #[Value.ref b] below meth c H locs cells slots Q (F0 m 349 ls (.ref q :: .int y :: .int x :: .ref (base + 0) :: rest)) := by
    intro kv F hM kk
    have hcw : vx_CSW room_1 s #[Value.ref b] RL 51 yL_step cL_step 5 (some .int) lw_hh lw_hw lw_hrm 1 6 4 := by
      refine ⟨⟨rfl, rfl, by decide, by decide, pay_in hg (fun w hw => ?_), List.mem_cons_self⟩, hg _ lw_sw.1, hg _ lw_sw.2.2.2, ⟨by decide, by decide⟩, fun sig h => ?_, hg _ lw_sw.2.1, hg _ lw_sw.2.2.1⟩
      · rcases List.mem_cons.mp hw with rfl | hw
        · exact ⟨lw_sw.1, am_good_in lw_sw.1⟩
        · exact ⟨hw, am_good_in hw⟩
      · have h2 : (parseMethodDescriptor yL_step.desc).map (fun d => d.parameters.length) = some 4 := by decide +kernel
        rw [h] at h2
        exact (Option.some.inj h2).symm
    have hblind : FrameBlind (lw_HP D cA cJ base q H.size σ f x y) := fun _ U g mk z => ⟨z.1, z.2.1, z.2.2.1, z.2.2.2.1, am_K.moved (u := U) (U := U.calling g mk _) (Vm.Alike.refl U.vm) z.2.2.2.2.1, ⟨arrOfT_moved (Vm.Alike.refl U.vm) z.2.2.2.2.2.1.1, z.2.2.2.2.2.1.2.moved (Vm.Alike.refl U.vm)⟩, ⟨vx_Zq.moved (u := U) (U := U.calling g mk _) (Vm.Alike.refl U.vm) z.2.2.2.2.2.2.1, vx_Zq.moved (u := U) (U := U.calling g mk _) (Vm.Alike.refl U.vm) z.2.2.2.2.2.2.2.1, fun w hw => (by
      have h1 := List.all_eq_true.mp lw_bad_ok w hw
      match w, h1, z.2.2.2.2.2.2.2.2 w hw with
      | .castable _ _, _, h => exact va_Nw.same rfl (show U.vm = (U.calling g mk _).vm from rfl) h
      | .declares _, _, h => exact va_Nw.same rfl (show U.vm = (U.calling g mk _).vm from rfl) h)⟩⟩
    have hrun2 := vx_runSW (p := p) (e := e) (below := below) (meth := meth) (locs := locs) (cells := cells) (slots := slots) (As := [.ref (base + 0), .int x, .int y, .ref q]) (rest := rest) (g := F0 m 349 ls (.ref q :: .int y :: .int x :: .ref (base + 0) :: rest)) (R := room_1) (n := 4) (index := 51) (own := RL) (Ts := lw_good) (cc := code) (nL := 7) ⟨hx, hb, hml, hown, hg⟩ hM hcw ⟨hblind, fun U hU hW => ⟨rfl, by rw [hU], by rw [hU]; exact hP, by rw [hU]; exact hq, am_K.moved hW.alike hK, ⟨arrOfT_moved hW.alike hJ.1, hJ.2.moved hW.alike⟩, hXs.to hW (by rw [hU]; exact hS)⟩⟩ rfl rfl hls rfl (lv_room hcat) dL_law_349 ⟨hc, hs⟩
    intro T hT Y
    obtain ⟨v, st₀, t, T', Lo, h0, Y', hLo, e1, e2, ⟨hv', f1, hF, hP1, hq1, hF1, hF2⟩, st⟩ := hrun2 T hT Y
    have hv2 : v = some (.int kv) := by cases hv'; rfl
    subst hv2
    rw [h0] at hF1 hF2
    have hS1 : va_S (fun a => base ≤ a) s.heap T'.heap (locs ++ Lo) := ⟨Nat.le_trans hS.1 (by rw [e1]; exact hF1), fun a h1 h2 => by rw [e1, hF2 a (Nat.lt_of_lt_of_le h1 hS.1) h2]; exact hS.2.1 a h1 h2, fun a ha => by
      rcases List.mem_append.mp ha with h | h
      · exact hS.2.2 a h
      · exact hLo a h⟩
    obtain ⟨t2, a1, b1⟩ := kk T'.heap (locs ++ Lo) f1 ⟨by rw [e1]; exact hP1, by rw [e1]; exact hq1, hqb, hS1⟩ hF T' rfl Y'
    exact ⟨t2, st t2 a1, b1⟩
  rcases hor with ⟨r, hr0⟩ | ht
  · exact key 0 _ (hp_metA l D cA cJ base q H.size σ f x y r hk hqb hr0) (fun H1 locs1 f1 hV1 hf1 => kA r hr0 H1 locs1 f1 hV1 hf1)
  · exact key 1 _ (hp_metB l hfl D cA cJ base q H.size σ f x y hk hR hj hqb ht) (fun H1 locs1 f1 hV1 hf1 => kB ht H1 locs1 (by rw [← hf1]; exact hV1))
end LWS
