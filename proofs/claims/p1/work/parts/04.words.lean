/-! ===== the tables' words, checked by their places ===== -/
def lw_good : List Cond := lw_tbl.filter goodWord
def am_ch (c : Nat) : List Cond := match c with
  | 0 => k2_sels lw_privs
  | 1 => tables_1_1
  | 2 => tables_1_2
  | 3 => tables_1_3
  | 4 => tables_1_4
  | 5 => tables_1_5
  | 6 => tables_1_6
  | 7 => tables_1_7
  | 8 => tables_1_8
  | _ => tables_1_9
theorem am_ch_in {w : Cond} : ∀ c, w ∈ am_ch c → w ∈ lw_tbl := by
  intro c h
  unfold lw_tbl tables_1
  simp only [List.mem_append]
  unfold am_ch at h
  split at h
  · exact Or.inl h
  · exact Or.inr (Or.inl h)
  · exact Or.inr (Or.inr (Or.inl h))
  · exact Or.inr (Or.inr (Or.inr (Or.inl h)))
  · exact Or.inr (Or.inr (Or.inr (Or.inr (Or.inl h))))
  · exact Or.inr (Or.inr (Or.inr (Or.inr (Or.inr (Or.inl h)))))
  · exact Or.inr (Or.inr (Or.inr (Or.inr (Or.inr (Or.inr (Or.inl h))))))
  · exact Or.inr (Or.inr (Or.inr (Or.inr (Or.inr (Or.inr (Or.inr (Or.inl h)))))))
  · exact Or.inr (Or.inr (Or.inr (Or.inr (Or.inr (Or.inr (Or.inr (Or.inr (Or.inl h))))))))
  · exact Or.inr (Or.inr (Or.inr (Or.inr (Or.inr (Or.inr (Or.inr (Or.inr (Or.inr h))))))))
theorem am_ch_mem {w : Cond} (c : Nat) (h : w ∈ am_ch c) (hg : goodWord w = true) : w ∈ lw_good := List.mem_filter.mpr ⟨am_ch_in c h, hg⟩
def am_at (p : Nat) (w : Cond) : Bool := decide ((am_ch (p / 1000))[p % 1000]? = some w) && goodWord w
theorem am_at_mem {p : Nat} {w : Cond} (h : am_at p w = true) : w ∈ lw_good := by
  simp only [am_at, Bool.and_eq_true, decide_eq_true_eq] at h
  exact am_ch_mem _ (List.mem_of_getElem? h.1) h.2
theorem am_good_in {w : Cond} (h : w ∈ lw_good) : (w.onTables && w.keeps) = true ∨ ∃ ty, w = .arrayClass ty := good_of_word (List.mem_filter.mp h).2
def am_okf (e : Nat × Nat × Nat × Nat × Nat) : Bool := am_at e.2.2.2.2 (.fieldLink (am_Rn e.1) e.2.1 (am_Rn e.2.2.1) (am_T e.2.2.1 e.2.2.2.1).2.1 (am_T e.2.2.1 e.2.2.2.1).2.2.1) && decide (e.2.2.2.1 < am_nf e.2.2.1) && ((am_T e.2.2.1 e.2.2.2.1).1 == am_Rn e.2.2.1) && decide (e.2.2.1 < 13)
set_option maxRecDepth 100000 in
theorem am_okf_0 : am_fldL_0.all am_okf = true := by decide +kernel
set_option maxRecDepth 100000 in
theorem am_okf_1 : am_fldL_1.all am_okf = true := by decide +kernel
set_option maxRecDepth 100000 in
theorem am_okf_2 : am_fldL_2.all am_okf = true := by decide +kernel
set_option maxRecDepth 100000 in
theorem am_okf_3 : am_fldL_3.all am_okf = true := by decide +kernel
theorem am_okf_all : am_fldL.all am_okf = true := by
  simp only [am_fldL, List.all_append, am_okf_0, am_okf_1, am_okf_2, am_okf_3, Bool.and_self]
/-- what a method must be -/
def am_okI (mi : am_I) : Bool := (mi.2.1.cls == am_Rn mi.1) && plainName mi.2.1.cls && decide (mi.2.1.cls ≠ "java/lang/invoke/MethodHandle") && decide (mi.2.1.cls ≠ "java/lang/invoke/VarHandle") && decide ((parseMethodDescriptor mi.2.1.desc).map (fun d => d.parameters.length) = some mi.2.2.2.2.2.1)
def am_okm (e : Nat × Nat × Nat × am_I × Nat × Nat × Nat × Nat × Nat) : Bool :=
  am_okI e.2.2.2.1 && am_at e.2.2.2.2.1 (.methodLink (am_Rn e.1) e.2.1 e.2.2.2.1.2.1) && am_at e.2.2.2.2.2.2.1 (.initialized e.2.2.2.1.2.1.cls) &&
  (match e.2.2.1 with
  | 0 => am_at e.2.2.2.2.2.1 (.instanceMethod e.2.2.2.1.2.1) && am_at e.2.2.2.2.2.2.2.2 (.selects e.2.2.2.1.2.1.cls e.2.2.2.1.2.1 e.2.2.2.1.2.1) && decide (e.2.2.2.1.1 < 13)
  | 1 => am_at e.2.2.2.2.2.1 (.static e.2.2.2.1.2.1)
  | _ => am_at e.2.2.2.2.2.1 (.instanceMethod e.2.2.2.1.2.1) && (e.2.2.2.1.2.1.name == "<init>") && decide (e.2.2.2.1.2.2.2.2.1 = none))
set_option maxRecDepth 100000 in
theorem am_okm_0 : am_mthL_0.all am_okm = true := by decide +kernel
set_option maxRecDepth 100000 in
theorem am_okm_1 : am_mthL_1.all am_okm = true := by decide +kernel
set_option maxRecDepth 100000 in
theorem am_okm_2 : am_mthL_2.all am_okm = true := by decide +kernel
set_option maxRecDepth 100000 in
theorem am_okm_3 : am_mthL_3.all am_okm = true := by decide +kernel
set_option maxRecDepth 100000 in
theorem am_okm_4 : am_mthL_4.all am_okm = true := by decide +kernel
set_option maxRecDepth 100000 in
theorem am_okm_5 : am_mthL_5.all am_okm = true := by decide +kernel
set_option maxRecDepth 100000 in
theorem am_okm_6 : am_mthL_6.all am_okm = true := by decide +kernel
theorem am_okm_all : am_mthL.all am_okm = true := by
  simp only [am_mthL, List.all_append, am_okm_0, am_okm_1, am_okm_2, am_okm_3, am_okm_4, am_okm_5, am_okm_6, Bool.and_self]
def am_okc (e : Nat × Nat × Nat × Nat × Nat × Nat) : Bool := am_at e.2.2.2.1 (.classLink (am_Rn e.1) e.2.1 (am_Rn e.2.2.1)) && am_at e.2.2.2.2.1 (.instantiable (am_Rn e.2.2.1) (am_nf e.2.2.1)) && am_at e.2.2.2.2.2 (.initialized (am_Rn e.2.2.1)) && decide (e.2.2.1 < 13)
set_option maxRecDepth 100000 in
theorem am_okc_all : am_clsL.all am_okc = true := by decide +kernel
set_option maxRecDepth 100000 in
theorem am_oko_all : am_objL.all (fun e => am_at e.2.2 (.methodLink (am_Rn e.1) e.2.1 objectInit)) = true := by decide +kernel
set_option maxRecDepth 100000 in
theorem am_oky_all : am_cpyL.all (fun e => am_at e.2.2 (.methodLink (am_Rn e.1) e.2.1 arraycopyName)) = true := by decide +kernel
set_option maxRecDepth 100000 in
theorem am_okx_all : am_maxL.all (fun e => am_at e.2.2 (.methodLink (am_Rn e.1) e.2.1 Lib.Math.max.name)) = true := by decide +kernel
set_option maxRecDepth 100000 in
theorem am_okn_all : am_minL.all (fun e => am_at e.2.2 (.methodLink (am_Rn e.1) e.2.1 Lib.Math.min.name)) = true := by decide +kernel
set_option maxRecDepth 100000 in
theorem am_okX : am_at am_pmax.1 (.static Lib.Math.max.name) = true ∧ am_at am_pmax.2.1 (.initialized "java/lang/Math") = true ∧ am_at am_pmax.2.2 (.code Lib.Math.max.name Lib.Math.max.code 2 (some .int)) = true := by decide +kernel
set_option maxRecDepth 100000 in
theorem am_okN : am_at am_pmin.1 (.static Lib.Math.min.name) = true ∧ am_at am_pmin.2.1 (.initialized "java/lang/Math") = true ∧ am_at am_pmin.2.2 (.code Lib.Math.min.name Lib.Math.min.code 2 (some .int)) = true := by decide +kernel
set_option maxRecDepth 100000 in
theorem am_okk_all : am_conL.all (fun e => am_at e.2.2.2 (.constant (am_Rn e.1) e.2.1 e.2.2.1)) = true := by decide +kernel
set_option maxRecDepth 100000 in
theorem am_okj_all : am_conJ.all (fun e => am_at e.2.2.2 (.constantLong (am_Rn e.1) e.2.1 e.2.2.1)) = true := by decide +kernel
set_option maxRecDepth 100000 in
theorem am_okO : am_at am_pObj.1 (.instanceMethod objectInit) = true ∧ am_at am_pObj.2 (.code objectInit ⟨#[0xb1]⟩ 1 none) = true := by decide +kernel
set_option maxRecDepth 100000 in
theorem am_okY : am_at am_pCpy.1 (.native arraycopyName) = true ∧ am_at am_pCpy.2.1 (.static arraycopyName) = true ∧ am_at am_pCpy.2.2 (.initialized "java/lang/System") = true := by decide +kernel
set_option maxRecDepth 100000 in
theorem am_okA : am_at am_pArr.1 (.arrayClass .int) = true ∧ am_at am_pArr.2.1 (.arrayClass .byte) = true ∧ am_at am_pArr.2.2 (.arrayClass .long) = true := by decide +kernel
def am_layOk (c : Nat) (L : List Nat) : Bool := (List.range (am_nf c)).all (fun k => am_at (L.getD k 0) (u_lay (am_Rn c) (am_T c) k))
theorem am_lay_in {c : Nat} {L : List Nat} (h : am_layOk c L = true) : ∀ w ∈ u_ws (am_Rn c) (am_T c) (am_nf c), w ∈ lw_good := by
  intro w hw
  obtain ⟨k, hk, rfl⟩ := List.mem_map.mp hw
  exact am_at_mem (List.all_eq_true.mp h k hk)
set_option maxRecDepth 100000 in
theorem am_lay_ok : (am_layOk 0 am_layL_0 && am_layOk 1 am_layL_1 && am_layOk 2 am_layL_2 && am_layOk 3 am_layL_3 && am_layOk 4 am_layL_4 && am_layOk 5 am_layL_5 && am_layOk 6 am_layL_6 && am_layOk 7 am_layL_7 && am_layOk 8 am_layL_8 && am_layOk 9 am_layL_9 && am_layOk 10 am_layL_10 && am_layOk 11 am_layL_11 && am_layOk 12 am_layL_12) = true := by decide +kernel
theorem am_ws_ok (c : Nat) (h : c < 13) : ∀ w ∈ u_ws (am_Rn c) (am_T c) (am_nf c), w ∈ lw_good := by
  have h0 := am_lay_ok
  simp only [Bool.and_eq_true] at h0
  obtain ⟨⟨⟨⟨⟨⟨⟨⟨⟨⟨⟨⟨h0, h1⟩, h2⟩, h3⟩, h4⟩, h5⟩, h6⟩, h7⟩, h8⟩, h9⟩, h10⟩, h11⟩, h12⟩ := h0
  match c, h with
  | 0, _ => exact am_lay_in h0
  | 1, _ => exact am_lay_in h1
  | 2, _ => exact am_lay_in h2
  | 3, _ => exact am_lay_in h3
  | 4, _ => exact am_lay_in h4
  | 5, _ => exact am_lay_in h5
  | 6, _ => exact am_lay_in h6
  | 7, _ => exact am_lay_in h7
  | 8, _ => exact am_lay_in h8
  | 9, _ => exact am_lay_in h9
  | 10, _ => exact am_lay_in h10
  | 11, _ => exact am_lay_in h11
  | 12, _ => exact am_lay_in h12
theorem am_cl_ok (c : Nat) (h : c < 13) : vwCl[c]? = some (am_Rn c, am_T c, am_nf c) := by
  match c, h with
  | 0, _ => rfl
  | 1, _ => rfl
  | 2, _ => rfl
  | 3, _ => rfl
  | 4, _ => rfl
  | 5, _ => rfl
  | 6, _ => rfl
  | 7, _ => rfl
  | 8, _ => rfl
  | 9, _ => rfl
  | 10, _ => rfl
  | 11, _ => rfl
  | 12, _ => rfl
theorem am_ty_ok (c : Nat) (h : c < 13) : ∀ k, k < am_nf c → parseFieldDescriptor (am_T c k).2.2.1 = some (am_ty c k) := by
  match c, h with
  | 0, _ => exact tyX0_ok
  | 1, _ => exact tyX1_ok
  | 2, _ => exact tyX2_ok
  | 3, _ => exact tyX3_ok
  | 4, _ => exact tyX4_ok
  | 5, _ => exact tyX5_ok
  | 6, _ => exact tyX6_ok
  | 7, _ => exact tyX7_ok
  | 8, _ => exact tyX8_ok
  | 9, _ => exact tyX9_ok
  | 10, _ => exact tyX10_ok
  | 11, _ => exact tyX11_ok
  | 12, _ => exact tyX12_ok
theorem am_nm_ok (c : Nat) (h : c < 13) : ∀ a, a < am_nf c → ∀ b, b < am_nf c → a ≠ b → (am_T c a).2.1 ≠ (am_T c b).2.1 := by
  match c, h with
  | 0, _ => exact nmX0
  | 1, _ => exact nmX1
  | 2, _ => exact nmX2
  | 3, _ => exact nmX3
  | 4, _ => exact nmX4
  | 5, _ => exact nmX5
  | 6, _ => exact nmX6
  | 7, _ => exact nmX7
  | 8, _ => exact nmX8
  | 9, _ => exact nmX9
  | 10, _ => exact nmX10
  | 11, _ => exact nmX11
  | 12, _ => exact nmX12
/-- every field is an int, a boolean or a reference -/
def am_tyB (c : Nat) : Bool := (List.range (am_nf c)).all (fun k => am_isR (am_ty c k) || decide (am_ty c k = .int) || decide (am_ty c k = .boolean))
set_option maxRecDepth 100000 in
theorem am_tyB_ok : (List.range 13).all am_tyB = true := by decide +kernel
