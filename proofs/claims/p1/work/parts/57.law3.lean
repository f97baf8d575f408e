set_option maxRecDepth 100000 in
theorem mt_13_19 : am_mth 13 19 0 = some mX11_feed := rfl
set_option maxRecDepth 100000 in
theorem mt_13_23 : am_mth 13 23 0 = some mX12_feed := rfl
set_option maxRecDepth 100000 in
theorem mt_13_24 : am_mth 13 24 0 = some mX11_end := rfl
set_option maxRecDepth 100000 in
theorem mt_13_28 : am_mth 13 28 0 = some mX12_end := rfl
set_option maxRecDepth 100000 in
theorem mt_13_29 : am_mth 13 29 0 = some mX11_fault := rfl
set_option maxRecDepth 100000 in
theorem mt_13_33 : am_mth 13 33 0 = some mX12_fault := rfl
set_option maxRecDepth 100000 in
theorem mt_13_34 : am_mth 13 34 0 = some mX11_infers := rfl
set_option maxRecDepth 100000 in
theorem mt_13_38 : am_mth 13 38 0 = some mX12_infers_ := rfl
set_option maxRecDepth 100000 in
theorem mt_13_39 : am_mth 13 39 0 = some mX11_below := rfl
set_option maxRecDepth 100000 in
theorem mt_13_42 : am_mth 13 42 0 = some mX12_below_ := rfl
set_option maxRecDepth 100000 in
theorem mt_13_43 : am_mth 13 43 0 = some mX11_judged := rfl
set_option maxRecDepth 100000 in
theorem mt_13_46 : am_mth 13 46 0 = some mX12_judged := rfl
set_option maxRecDepth 100000 in
theorem mt_13_47 : am_mth 13 47 0 = some mX11_type := rfl
set_option maxRecDepth 100000 in
theorem mt_13_50 : am_mth 13 50 0 = some mX12_type := rfl
set_option maxRecDepth 100000 in
theorem mt_13_56 : am_mth 13 56 0 = some mX12_step := rfl
set_option maxRecDepth 100000 in
theorem mt_13_57 : am_mth 13 57 0 = some mX12_thrown := rfl
set_option maxRecDepth 100000 in
theorem mt_13_60 : am_mth 13 60 0 = some mX11_entry := rfl
set_option maxRecDepth 100000 in
theorem mt_13_63 : am_mth 13 63 0 = some mX12_entry := rfl
set_option maxRecDepth 100000 in
theorem mt_13_64 : am_mth 13 64 0 = some mX11_entryType := rfl
set_option maxRecDepth 100000 in
theorem mt_13_67 : am_mth 13 67 0 = some mX12_entryType := rfl
set_option maxRecDepth 100000 in
theorem mt_13_68 : am_mth 13 68 0 = some mX11_keeps := rfl
set_option maxRecDepth 100000 in
theorem mt_13_71 : am_mth 13 71 0 = some mX12_keeps := rfl
set_option maxRecDepth 100000 in
theorem mt_13_72 : am_mth 13 72 0 = some mX11_drops := rfl
set_option maxRecDepth 100000 in
theorem mt_13_75 : am_mth 13 75 0 = some mX12_drops := rfl
set_option maxRecDepth 100000 in
theorem mt_13_76 : am_mth 13 76 0 = some mX11_shelf := rfl
set_option maxRecDepth 100000 in
theorem mt_13_79 : am_mth 13 79 0 = some mX12_shelf := rfl
set_option maxRecDepth 100000 in
theorem mt_13_80 : am_mth 13 80 0 = some mX11_shelfType := rfl
set_option maxRecDepth 100000 in
theorem mt_13_83 : am_mth 13 83 0 = some mX12_shelfType := rfl
set_option maxRecDepth 100000 in
theorem mt_13_84 : am_mth 13 84 0 = some mX11_worked := rfl
set_option maxRecDepth 100000 in
theorem mt_13_87 : am_mth 13 87 0 = some mX12_worked := rfl
set_option maxRecDepth 100000 in
theorem mt_13_88 : am_mth 13 88 0 = some mX11_asks := rfl
set_option maxRecDepth 100000 in
theorem mt_13_91 : am_mth 13 91 0 = some mX12_asks := rfl
set_option maxRecDepth 100000 in
theorem mt_13_92 : am_mth 13 92 0 = some mX11_tells := rfl
set_option maxRecDepth 100000 in
theorem mt_13_95 : am_mth 13 95 0 = some mX12_tells := rfl
set_option maxRecDepth 100000 in
theorem mt_13_96 : am_mth 13 96 0 = some mX11_shelfBelow := rfl
set_option maxRecDepth 100000 in
theorem mt_13_99 : am_mth 13 99 0 = some mX12_shelfBelow := rfl
set_option maxRecDepth 100000 in
theorem mt_13_100 : am_mth 13 100 0 = some mX11_count := rfl
set_option maxRecDepth 100000 in
theorem mt_13_103 : am_mth 13 103 0 = some mX12_count := rfl
set_option maxRecDepth 100000 in
theorem mt_13_104 : am_mth 13 104 0 = some mX11_byRule := rfl
set_option maxRecDepth 100000 in
theorem mt_13_107 : am_mth 13 107 0 = some mX12_byRule := rfl
/-- all operations are well -/
def lw_ops (I' : am_St → Prop) (σ : am_St) : Prop := I' σ ∧ (∀ a b c d e : Int32, lw_op I' σ mX11_feed mX12_feed [a, b, c, d, e]) ∧ (∀ a : Int32, lw_op I' σ mX11_end mX12_end [a]) ∧ (∀ a : Int32, lw_op I' σ mX11_fault mX12_fault [a]) ∧ lw_op I' σ mX11_infers mX12_infers_ [] ∧ lw_op I' σ mX11_below mX12_below_ [] ∧ (∀ a : Int32, lw_op I' σ mX11_judged mX12_judged [a]) ∧ (∀ a : Int32, lw_op I' σ mX11_type mX12_type [a]) ∧ (∀ x y, lw_st I' σ x y) ∧ (∀ a b : Int32, lw_op I' σ mX11_entry mX12_entry [a, b]) ∧ (∀ a b : Int32, lw_op I' σ mX11_entryType mX12_entryType [a, b]) ∧ (∀ a : Int32, lw_op I' σ mX11_keeps mX12_keeps [a]) ∧ lw_op I' σ mX11_drops mX12_drops [] ∧ (∀ a b : Int32, lw_op I' σ mX11_shelf mX12_shelf [a, b]) ∧ (∀ a b : Int32, lw_op I' σ mX11_shelfType mX12_shelfType [a, b]) ∧ (∀ a : Int32, lw_op I' σ mX11_worked mX12_worked [a]) ∧ lw_op I' σ mX11_asks mX12_asks [] ∧ (∀ a : Int32, lw_op I' σ mX11_tells mX12_tells [a]) ∧ (∀ a b : Int32, lw_op I' σ mX11_shelfBelow mX12_shelfBelow [a, b]) ∧ (∀ a : Int32, lw_op I' σ mX11_count mX12_count [a]) ∧ (∀ a : Int32, lw_op I' σ mX11_byRule mX12_byRule [a])
theorem lw_lt {L : Nat} (h : L < 6) : Int32.ofNat L - 6 < 0 := by
  rcases (show L = 0 ∨ L = 1 ∨ L = 2 ∨ L = 3 ∨ L = 4 ∨ L = 5 by omega) with rfl | rfl | rfl | rfl | rfl | rfl <;> decide
theorem lw_sub {L : Nat} (h : 6 ≤ L) : Int32.ofNat L - 6 = nI (L - 6) := by
  obtain ⟨k, rfl⟩ := Nat.exists_eq_add_of_le h
  rw [show 6 + k - 6 = k by omega, show Int32.ofNat (6 + k) = nI (k + 6) by rw [Nat.add_comm]; rfl, ← nI_add]
  exact (by simp [show nI 6 = 6 from rfl] : nI k + nI 6 - 6 = nI k)
set_option maxRecDepth 100000 in
set_option maxHeartbeats 8000000 in
theorem law_loop {p : Program} {l : Launch} {e : Env} {s : State} {m : MethodId} {below : List Frame} {meth : Method} {c : Code} {D : va_G} {cA : Nat → ClassId} {cJ : ClassId} {base q b L K : Nat} {xs : Nat → Int32} (hLK : L ≤ 6 * K + 5) (hK5 : K ≤ 512) (Inv : Nat → am_St → Prop) (hsh : ∀ i σ, Inv i σ → lw_sh σ) (hops : ∀ i σ, i < K → Inv i σ → lw_ops (Inv (i + 1)) σ) (hC : lw_Cx p l s m meth c D cA cJ base b) (hX : va_X b L xs s s.heap) (hbl : b < s.heap.size) :
    ∀ (n i : Nat) (x4 : Int32) (σ : am_St) (f : Nat → Int64) (H : Heap) (locs : List Loc) (ls : Array Slot), 6 * i ≤ L → L + 1 ≤ 6 * i + n → x4 = nI (6 * i) → Inv i σ → lw_V s D cA cJ base q σ f H locs → lv_has ls 7 [(0, .ref b), (1, .ref (base + 0)), (2, .ref (base + 161)), (3, .ref q), (4, .int x4)] → W p l e room_1 s m #[Value.ref b] below meth c H locs (195 + i) (1187153 + 6 * i) (lw_Z below #[Value.ref b] s) (F0 m 23 ls []) := by
  have hC' := hC
  obtain ⟨hx, hb, hr, hml, hown, hts, hlk, hKK, hJ, hsz, hfl, hgv⟩ := hC'
  have hbA : ¬ (fun a : Nat => base ≤ a) b := fun z => by
    have : base ≤ b := z
    omega
  intro n
  induction n with
  | zero => intro i x4 σ f H locs ls h1 h2; exact absurd h2 (by omega)
  | succ n ih =>
    intro i x4 σ f H locs ls hi hin ex4 hI hV hl
    have hsh0 := hsh i σ hI
    refine lv_iload hx hb dL_law_23 (lv_at hl 4 rfl) ?_
    refine lv_aload_n hx hb dL_law_25 rfl (lv_at hl 0 rfl) ?_
    refine va_slen hx hb hX hbl hbA hV.2.2.2 dL_law_26 ?_
    refine lv_bipush (v := 6) hx hb dL_law_27 (by decide) ?_
    refine lv_isub hx hb dL_law_29 ?_
    refine lv_icmp_gt (tgt := 745) hx hb dL_law_30 (by decide) (fun c_0 => ?_) (fun c_0 => ?_)
    · refine lv_iconst (v := 1) hx hb dL_law_745 (by decide) ?_
      refine va_forget (fun a ha => by have := hV.2.2.2.2.2 a ha; omega) ?_
      refine W.widen (k := 600002) (n := 7302232) (by omega) (by omega) ?_
      exact lw_ret hx hb hr hlk dL_law_746
    · have h6 : 6 ≤ L := by
        rcases Nat.lt_or_ge L 6 with q6 | q6
        · have hi0 : i = 0 := by omega
          subst hi0
          exact absurd (by rw [ex4]; exact lw_lt q6) c_0
        · exact q6
      have h66 : 6 * i + 6 ≤ L := by
        rcases Nat.lt_or_ge (L - 6) (6 * i) with q6 | q6
        · exact absurd (by rw [ex4, lw_sub h6]; exact nI_lt q6 (by omega)) c_0
        · omega
      have hiK : i < K := by omega
      have hO := hops i σ hiK hI
      obtain ⟨hO0, hO1, hO2, hO3, hO4, hO5, hO6, hO7, hO8, hO9, hO10, hO11, hO12, hO13, hO14, hO15, hO16, hO17, hO18, hO19, hO20⟩ := hO
      have hin0 : vp_in x4 L := by rw [ex4]; exact vp_in_nI (by omega) (by omega)
      have hin1 : vp_in (x4 + 1) L := by rw [ex4, show nI (6 * i) + 1 = nI (6 * i + 1) from nI_add (6 * i) 1]; exact vp_in_nI (by omega) (by omega)
      have hin2 : vp_in (x4 + 2) L := by rw [ex4, show nI (6 * i) + 2 = nI (6 * i + 2) from nI_add (6 * i) 2]; exact vp_in_nI (by omega) (by omega)
      have hin3 : vp_in (x4 + 3) L := by rw [ex4, show nI (6 * i) + 3 = nI (6 * i + 3) from nI_add (6 * i) 3]; exact vp_in_nI (by omega) (by omega)
      have hin4 : vp_in (x4 + 4) L := by rw [ex4, show nI (6 * i) + 4 = nI (6 * i + 4) from nI_add (6 * i) 4]; exact vp_in_nI (by omega) (by omega)
      have hin5 : vp_in (x4 + 5) L := by rw [ex4, show nI (6 * i) + 5 = nI (6 * i + 5) from nI_add (6 * i) 5]; exact vp_in_nI (by omega) (by omega)
      have tail : ∀ (σ2 : am_St) (f2 : Nat → Int64) (H2 : Heap) (locs2 : List Loc) (ls2 : Array Slot) (l5 : List (Nat × Value)) (cl sl : Nat), cl ≤ 195 + i + 1 → sl ≤ 1187153 + 6 * i + 6 → Inv (i + 1) σ2 → lw_V s D cA cJ base q σ2 f2 H2 locs2 → lv_has ls2 7 ((0, .ref b) :: (1, .ref (base + 0)) :: (2, .ref (base + 161)) :: (3, .ref q) :: (4, .int x4) :: l5) → W p l e room_1 s m #[Value.ref b] below meth c H2 locs2 cl sl (lw_Z below #[Value.ref b] s) (F0 m 739 ls2 []) := by
        intro σ2 f2 H2 locs2 ls2 l5 cl sl hcl hsl hI2 hV2 hl2
        obtain ⟨x4', ex4'⟩ : ∃ y : Int32, y = x4 + 6 := ⟨_, rfl⟩
        have hl3 : lv_has ls2 7 [(4, .int x4), (0, .ref b), (1, .ref (base + 0)), (2, .ref (base + 161)), (3, .ref q)] := lv_sub hl2 [4, 0, 1, 2, 3] rfl
        refine lv_iinc (v := x4') (lv' := [(4, .int x4'), (0, .ref b), (1, .ref (base + 0)), (2, .ref (base + 161)), (3, .ref q)]) hx hb dL_law_739 hl3 (k := 0) rfl (by rw [ex4']; rfl) (by decide) rfl (fun ls hl => ?_)
        refine lv_goto (tgt := 23) hx hb dL_law_742 (by decide) ?_
        refine W.widen (k := 195 + (i + 1)) (n := 1187153 + 6 * (i + 1)) (by omega) (by omega) ?_
        exact ih (i + 1) x4' σ2 f2 H2 locs2 ls (by omega) (by omega) (by rw [ex4', ex4, show nI (6 * i) + 6 = nI (6 * i + 6) from nI_add (6 * i) 6]; rfl) hI2 hV2 (lv_sub hl [1, 2, 3, 4, 0] rfl)
      refine lv_aload_n hx hb dL_law_33 rfl (lv_at hl 0 rfl) ?_
      refine lv_iload hx hb dL_law_34 (lv_at hl 4 rfl) ?_
      refine va_sld hx hb hX hbl hbA hV.2.2.2 hin0 dL_law_36 ?_
      refine lv_bipush (v := 31) hx hb dL_law_37 (by decide) ?_
      refine lv_iand hx hb dL_law_39 ?_
      refine lv_topi (fun y ey => ?_)
      have hcl : 195 + i ≤ 600002 := by omega
      have hsl : 1187153 + 6 * i ≤ 7302232 := by omega
      have o0 : g_o σ 0 11 := lw_sh_o hsh0 (by decide) (by decide)
      have o1 : g_o σ 161 12 := lw_sh_o hsh0 (by decide) (by decide)
      have o2 : g_o σ 102 2 := lw_sh_o hsh0 (by decide) (by decide)
      rcases (by omega : (y.toInt < 0 ∨ 19 < y.toInt) ∨ y.toInt = 0 ∨ y.toInt = 1 ∨ y.toInt = 2 ∨ y.toInt = 3 ∨ y.toInt = 4 ∨ y.toInt = 5 ∨ y.toInt = 6 ∨ y.toInt = 7 ∨ y.toInt = 8 ∨ y.toInt = 9 ∨ y.toInt = 10 ∨ y.toInt = 11 ∨ y.toInt = 12 ∨ y.toInt = 13 ∨ y.toInt = 14 ∨ y.toInt = 15 ∨ y.toInt = 16 ∨ y.toInt = 17 ∨ y.toInt = 18 ∨ y.toInt = 19) with hy | hy | hy | hy | hy | hy | hy | hy | hy | hy | hy | hy | hy | hy | hy | hy | hy | hy | hy | hy | hy
      · refine lv_tableOut (tgt := 739) hx hb dL_law_40 hy (by decide) ?_
        exact tail σ f H locs ls [] _ _ (by omega) (by omega) hO0 hV hl
      · refine lv_tableIn (tgt := 136) (off := 96) hx hb dL_law_40 (by omega) (by omega) (by rw [hy]; rfl) (by decide) ?_
        obtain ⟨r, σ1, σ2, r1, r2, m1, m2, i2⟩ := hO1 (xs (x4 + 1).toNatClampNeg) (xs (x4 + 2).toNatClampNeg) (xs (x4 + 3).toNatClampNeg) (xs (x4 + 4).toNatClampNeg) (xs (x4 + 5).toNatClampNeg)
        refine lv_aload_n hx hb dL_law_136 rfl (lv_at hl 1 rfl) ?_
        refine lv_aload_n hx hb dL_law_137 rfl (lv_at hl 0 rfl) ?_
        refine lv_iload hx hb dL_law_138 (lv_at hl 4 rfl) ?_
        refine lv_iconst (v := 1) hx hb dL_law_140 (by decide) ?_
        refine lv_iadd hx hb dL_law_141 ?_
        refine va_sld hx hb hX hbl hbA hV.2.2.2 hin1 dL_law_142 ?_
        refine lv_aload_n hx hb dL_law_143 rfl (lv_at hl 0 rfl) ?_
        refine lv_iload hx hb dL_law_144 (lv_at hl 4 rfl) ?_
        refine lv_iconst (v := 2) hx hb dL_law_146 (by decide) ?_
        refine lv_iadd hx hb dL_law_147 ?_
        refine va_sld hx hb hX hbl hbA hV.2.2.2 hin2 dL_law_148 ?_
        refine lv_aload_n hx hb dL_law_149 rfl (lv_at hl 0 rfl) ?_
        refine lv_iload hx hb dL_law_150 (lv_at hl 4 rfl) ?_
        refine lv_iconst (v := 3) hx hb dL_law_152 (by decide) ?_
        refine lv_iadd hx hb dL_law_153 ?_
        refine va_sld hx hb hX hbl hbA hV.2.2.2 hin3 dL_law_154 ?_
        refine lv_aload_n hx hb dL_law_155 rfl (lv_at hl 0 rfl) ?_
        refine lv_iload hx hb dL_law_156 (lv_at hl 4 rfl) ?_
        refine lv_iconst (v := 4) hx hb dL_law_158 (by decide) ?_
        refine lv_iadd hx hb dL_law_159 ?_
        refine va_sld hx hb hX hbl hbA hV.2.2.2 hin4 dL_law_160 ?_
        refine lv_aload_n hx hb dL_law_161 rfl (lv_at hl 0 rfl) ?_
        refine lv_iload hx hb dL_law_162 (lv_at hl 4 rfl) ?_
        refine lv_iconst (v := 5) hx hb dL_law_164 (by decide) ?_
        refine lv_iadd hx hb dL_law_165 ?_
        refine va_sld hx hb hX hbl hbA hV.2.2.2 hin5 dL_law_166 ?_
        refine lw_call (is := [xs (x4 + 1).toNatClampNeg, xs (x4 + 2).toNatClampNeg, xs (x4 + 3).toNatClampNeg, xs (x4 + 4).toNatClampNeg, xs (x4 + 5).toNatClampNeg]) (k := 0) hC dL_law_167 mt_13_19 rfl o0 r1 m1 hl.1 (Nat.le_of_ble_eq_true rfl) hcl hsl hV (fun H locs hV => ?_)
        refine lv_aload_n hx hb dL_law_170 rfl (lv_at hl 2 rfl) ?_
        refine lv_aload_n hx hb dL_law_171 rfl (lv_at hl 0 rfl) ?_
        refine lv_iload hx hb dL_law_172 (lv_at hl 4 rfl) ?_
        refine lv_iconst (v := 1) hx hb dL_law_174 (by decide) ?_
        refine lv_iadd hx hb dL_law_175 ?_
        refine va_sld hx hb hX hbl hbA hV.2.2.2 hin1 dL_law_176 ?_
        refine lv_aload_n hx hb dL_law_177 rfl (lv_at hl 0 rfl) ?_
        refine lv_iload hx hb dL_law_178 (lv_at hl 4 rfl) ?_
        refine lv_iconst (v := 2) hx hb dL_law_180 (by decide) ?_
        refine lv_iadd hx hb dL_law_181 ?_
        refine va_sld hx hb hX hbl hbA hV.2.2.2 hin2 dL_law_182 ?_
        refine lv_aload_n hx hb dL_law_183 rfl (lv_at hl 0 rfl) ?_
        refine lv_iload hx hb dL_law_184 (lv_at hl 4 rfl) ?_
        refine lv_iconst (v := 3) hx hb dL_law_186 (by decide) ?_
        refine lv_iadd hx hb dL_law_187 ?_
        refine va_sld hx hb hX hbl hbA hV.2.2.2 hin3 dL_law_188 ?_
        refine lv_aload_n hx hb dL_law_189 rfl (lv_at hl 0 rfl) ?_
        refine lv_iload hx hb dL_law_190 (lv_at hl 4 rfl) ?_
        refine lv_iconst (v := 4) hx hb dL_law_192 (by decide) ?_
        refine lv_iadd hx hb dL_law_193 ?_
        refine va_sld hx hb hX hbl hbA hV.2.2.2 hin4 dL_law_194 ?_
        refine lv_aload_n hx hb dL_law_195 rfl (lv_at hl 0 rfl) ?_
        refine lv_iload hx hb dL_law_196 (lv_at hl 4 rfl) ?_
        refine lv_iconst (v := 5) hx hb dL_law_198 (by decide) ?_
        refine lv_iadd hx hb dL_law_199 ?_
        refine va_sld hx hb hX hbl hbA hV.2.2.2 hin5 dL_law_200 ?_
        refine lw_call (is := [xs (x4 + 1).toNatClampNeg, xs (x4 + 2).toNatClampNeg, xs (x4 + 3).toNatClampNeg, xs (x4 + 4).toNatClampNeg, xs (x4 + 5).toNatClampNeg]) (k := 161) hC dL_law_201 mt_13_23 rfl (lw_sm_o m1 o1) r2 m2 hl.1 (Nat.le_of_ble_eq_true rfl) hcl hsl hV (fun H locs hV => ?_)
        refine lv_icmp_eq (tgt := 739) hx hb dL_law_204 (by decide) (fun _ => ?_) (fun z => absurd rfl z)
        exact tail σ2 f H locs ls [] _ _ (by omega) (by omega) i2 hV hl
      · refine lv_tableIn (tgt := 209) (off := 169) hx hb dL_law_40 (by omega) (by omega) (by rw [hy]; rfl) (by decide) ?_
        obtain ⟨r, σ1, σ2, r1, r2, m1, m2, i2⟩ := hO2 (xs (x4 + 1).toNatClampNeg)
        refine lv_aload_n hx hb dL_law_209 rfl (lv_at hl 1 rfl) ?_
        refine lv_aload_n hx hb dL_law_210 rfl (lv_at hl 0 rfl) ?_
        refine lv_iload hx hb dL_law_211 (lv_at hl 4 rfl) ?_
        refine lv_iconst (v := 1) hx hb dL_law_213 (by decide) ?_
        refine lv_iadd hx hb dL_law_214 ?_
        refine va_sld hx hb hX hbl hbA hV.2.2.2 hin1 dL_law_215 ?_
        refine lw_call (is := [xs (x4 + 1).toNatClampNeg]) (k := 0) hC dL_law_216 mt_13_24 rfl o0 r1 m1 hl.1 (Nat.le_of_ble_eq_true rfl) hcl hsl hV (fun H locs hV => ?_)
        refine lv_aload_n hx hb dL_law_219 rfl (lv_at hl 2 rfl) ?_
        refine lv_aload_n hx hb dL_law_220 rfl (lv_at hl 0 rfl) ?_
        refine lv_iload hx hb dL_law_221 (lv_at hl 4 rfl) ?_
        refine lv_iconst (v := 1) hx hb dL_law_223 (by decide) ?_
        refine lv_iadd hx hb dL_law_224 ?_
        refine va_sld hx hb hX hbl hbA hV.2.2.2 hin1 dL_law_225 ?_
        refine lw_call (is := [xs (x4 + 1).toNatClampNeg]) (k := 161) hC dL_law_226 mt_13_28 rfl (lw_sm_o m1 o1) r2 m2 hl.1 (Nat.le_of_ble_eq_true rfl) hcl hsl hV (fun H locs hV => ?_)
        refine lv_icmp_eq (tgt := 739) hx hb dL_law_229 (by decide) (fun _ => ?_) (fun z => absurd rfl z)
        exact tail σ2 f H locs ls [] _ _ (by omega) (by omega) i2 hV hl
      · refine lv_tableIn (tgt := 234) (off := 194) hx hb dL_law_40 (by omega) (by omega) (by rw [hy]; rfl) (by decide) ?_
        obtain ⟨r, σ1, σ2, r1, r2, m1, m2, i2⟩ := hO3 (xs (x4 + 1).toNatClampNeg)
        refine lv_aload_n hx hb dL_law_234 rfl (lv_at hl 1 rfl) ?_
        refine lv_aload_n hx hb dL_law_235 rfl (lv_at hl 0 rfl) ?_
        refine lv_iload hx hb dL_law_236 (lv_at hl 4 rfl) ?_
        refine lv_iconst (v := 1) hx hb dL_law_238 (by decide) ?_
        refine lv_iadd hx hb dL_law_239 ?_
        refine va_sld hx hb hX hbl hbA hV.2.2.2 hin1 dL_law_240 ?_
        refine lw_call (is := [xs (x4 + 1).toNatClampNeg]) (k := 0) hC dL_law_241 mt_13_29 rfl o0 r1 m1 hl.1 (Nat.le_of_ble_eq_true rfl) hcl hsl hV (fun H locs hV => ?_)
        refine lv_aload_n hx hb dL_law_244 rfl (lv_at hl 2 rfl) ?_
        refine lv_aload_n hx hb dL_law_245 rfl (lv_at hl 0 rfl) ?_
        refine lv_iload hx hb dL_law_246 (lv_at hl 4 rfl) ?_
        refine lv_iconst (v := 1) hx hb dL_law_248 (by decide) ?_
        refine lv_iadd hx hb dL_law_249 ?_
        refine va_sld hx hb hX hbl hbA hV.2.2.2 hin1 dL_law_250 ?_
        refine lw_call (is := [xs (x4 + 1).toNatClampNeg]) (k := 161) hC dL_law_251 mt_13_33 rfl (lw_sm_o m1 o1) r2 m2 hl.1 (Nat.le_of_ble_eq_true rfl) hcl hsl hV (fun H locs hV => ?_)
        refine lv_icmp_eq (tgt := 739) hx hb dL_law_254 (by decide) (fun _ => ?_) (fun z => absurd rfl z)
        exact tail σ2 f H locs ls [] _ _ (by omega) (by omega) i2 hV hl
      · refine lv_tableIn (tgt := 259) (off := 219) hx hb dL_law_40 (by omega) (by omega) (by rw [hy]; rfl) (by decide) ?_
        obtain ⟨r, σ1, σ2, r1, r2, m1, m2, i2⟩ := hO4
        refine lv_aload_n hx hb dL_law_259 rfl (lv_at hl 1 rfl) ?_
        refine lw_call (is := []) (k := 0) hC dL_law_260 mt_13_34 rfl o0 r1 m1 hl.1 (Nat.le_of_ble_eq_true rfl) hcl hsl hV (fun H locs hV => ?_)
        refine lv_aload_n hx hb dL_law_263 rfl (lv_at hl 2 rfl) ?_
        refine lw_call (is := []) (k := 161) hC dL_law_264 mt_13_38 rfl (lw_sm_o m1 o1) r2 m2 hl.1 (Nat.le_of_ble_eq_true rfl) hcl hsl hV (fun H locs hV => ?_)
        refine lv_icmp_eq (tgt := 739) hx hb dL_law_267 (by decide) (fun _ => ?_) (fun z => absurd rfl z)
        exact tail σ2 f H locs ls [] _ _ (by omega) (by omega) i2 hV hl
      · refine lv_tableIn (tgt := 272) (off := 232) hx hb dL_law_40 (by omega) (by omega) (by rw [hy]; rfl) (by decide) ?_
        obtain ⟨r, σ1, σ2, r1, r2, m1, m2, i2⟩ := hO5
        refine lv_aload_n hx hb dL_law_272 rfl (lv_at hl 1 rfl) ?_
        refine lw_call (is := []) (k := 0) hC dL_law_273 mt_13_39 rfl o0 r1 m1 hl.1 (Nat.le_of_ble_eq_true rfl) hcl hsl hV (fun H locs hV => ?_)
        refine lv_aload_n hx hb dL_law_276 rfl (lv_at hl 2 rfl) ?_
        refine lw_call (is := []) (k := 161) hC dL_law_277 mt_13_42 rfl (lw_sm_o m1 o1) r2 m2 hl.1 (Nat.le_of_ble_eq_true rfl) hcl hsl hV (fun H locs hV => ?_)
        refine lv_icmp_eq (tgt := 739) hx hb dL_law_280 (by decide) (fun _ => ?_) (fun z => absurd rfl z)
        exact tail σ2 f H locs ls [] _ _ (by omega) (by omega) i2 hV hl
      · refine lv_tableIn (tgt := 285) (off := 245) hx hb dL_law_40 (by omega) (by omega) (by rw [hy]; rfl) (by decide) ?_
        obtain ⟨r, σ1, σ2, r1, r2, m1, m2, i2⟩ := hO6 (xs (x4 + 1).toNatClampNeg)
        refine lv_aload_n hx hb dL_law_285 rfl (lv_at hl 1 rfl) ?_
        refine lv_aload_n hx hb dL_law_286 rfl (lv_at hl 0 rfl) ?_
        refine lv_iload hx hb dL_law_287 (lv_at hl 4 rfl) ?_
        refine lv_iconst (v := 1) hx hb dL_law_289 (by decide) ?_
        refine lv_iadd hx hb dL_law_290 ?_
        refine va_sld hx hb hX hbl hbA hV.2.2.2 hin1 dL_law_291 ?_
        refine lw_call (is := [xs (x4 + 1).toNatClampNeg]) (k := 0) hC dL_law_292 mt_13_43 rfl o0 r1 m1 hl.1 (Nat.le_of_ble_eq_true rfl) hcl hsl hV (fun H locs hV => ?_)
        refine lv_aload_n hx hb dL_law_295 rfl (lv_at hl 2 rfl) ?_
        refine lv_aload_n hx hb dL_law_296 rfl (lv_at hl 0 rfl) ?_
        refine lv_iload hx hb dL_law_297 (lv_at hl 4 rfl) ?_
        refine lv_iconst (v := 1) hx hb dL_law_299 (by decide) ?_
        refine lv_iadd hx hb dL_law_300 ?_
        refine va_sld hx hb hX hbl hbA hV.2.2.2 hin1 dL_law_301 ?_
        refine lw_call (is := [xs (x4 + 1).toNatClampNeg]) (k := 161) hC dL_law_302 mt_13_46 rfl (lw_sm_o m1 o1) r2 m2 hl.1 (Nat.le_of_ble_eq_true rfl) hcl hsl hV (fun H locs hV => ?_)
        refine lv_icmp_eq (tgt := 739) hx hb dL_law_305 (by decide) (fun _ => ?_) (fun z => absurd rfl z)
        exact tail σ2 f H locs ls [] _ _ (by omega) (by omega) i2 hV hl
      · refine lv_tableIn (tgt := 310) (off := 270) hx hb dL_law_40 (by omega) (by omega) (by rw [hy]; rfl) (by decide) ?_
        obtain ⟨r, σ1, σ2, r1, r2, m1, m2, i2⟩ := hO7 (xs (x4 + 1).toNatClampNeg)
        refine lv_aload_n hx hb dL_law_310 rfl (lv_at hl 1 rfl) ?_
        refine lv_aload_n hx hb dL_law_311 rfl (lv_at hl 0 rfl) ?_
        refine lv_iload hx hb dL_law_312 (lv_at hl 4 rfl) ?_
        refine lv_iconst (v := 1) hx hb dL_law_314 (by decide) ?_
        refine lv_iadd hx hb dL_law_315 ?_
        refine va_sld hx hb hX hbl hbA hV.2.2.2 hin1 dL_law_316 ?_
        refine lw_call (is := [xs (x4 + 1).toNatClampNeg]) (k := 0) hC dL_law_317 mt_13_47 rfl o0 r1 m1 hl.1 (Nat.le_of_ble_eq_true rfl) hcl hsl hV (fun H locs hV => ?_)
        refine lv_aload_n hx hb dL_law_320 rfl (lv_at hl 2 rfl) ?_
        refine lv_aload_n hx hb dL_law_321 rfl (lv_at hl 0 rfl) ?_
        refine lv_iload hx hb dL_law_322 (lv_at hl 4 rfl) ?_
        refine lv_iconst (v := 1) hx hb dL_law_324 (by decide) ?_
        refine lv_iadd hx hb dL_law_325 ?_
        refine va_sld hx hb hX hbl hbA hV.2.2.2 hin1 dL_law_326 ?_
        refine lw_call (is := [xs (x4 + 1).toNatClampNeg]) (k := 161) hC dL_law_327 mt_13_50 rfl (lw_sm_o m1 o1) r2 m2 hl.1 (Nat.le_of_ble_eq_true rfl) hcl hsl hV (fun H locs hV => ?_)
        refine lv_icmp_eq (tgt := 739) hx hb dL_law_330 (by decide) (fun _ => ?_) (fun z => absurd rfl z)
        exact tail σ2 f H locs ls [] _ _ (by omega) (by omega) i2 hV hl
      · refine lv_tableIn (tgt := 335) (off := 295) hx hb dL_law_40 (by omega) (by omega) (by rw [hy]; rfl) (by decide) ?_
        obtain ⟨s1, s2, s3⟩ := hO8 (xs (x4 + 1).toNatClampNeg) (xs (x4 + 2).toNatClampNeg)
        refine lv_aload_n hx hb dL_law_335 rfl (lv_at hl 1 rfl) ?_
        refine lv_aload_n hx hb dL_law_336 rfl (lv_at hl 0 rfl) ?_
        refine lv_iload hx hb dL_law_337 (lv_at hl 4 rfl) ?_
        refine lv_iconst (v := 1) hx hb dL_law_339 (by decide) ?_
        refine lv_iadd hx hb dL_law_340 ?_
        refine va_sld hx hb hX hbl hbA hV.2.2.2 hin1 dL_law_341 ?_
        refine lv_aload_n hx hb dL_law_342 rfl (lv_at hl 0 rfl) ?_
        refine lv_iload hx hb dL_law_343 (lv_at hl 4 rfl) ?_
        refine lv_iconst (v := 2) hx hb dL_law_345 (by decide) ?_
        refine lv_iadd hx hb dL_law_346 ?_
        refine va_sld hx hb hX hbl hbA hV.2.2.2 hin2 dL_law_347 ?_
        refine lv_aload_n hx hb dL_law_348 rfl (lv_at hl 3 rfl) ?_
        have mid : ∀ (kv : Int32) (f1 : Nat → Int64) (H1 : Heap) (locs1 : List Loc) (r : Int32) (σ2 σ3 : am_St), am_run 2000 mX12_step (.ref 161 :: [xs (x4 + 1).toNatClampNeg, xs (x4 + 2).toNatClampNeg].map Value.int) σ = some (some (.int r), σ2) → am_run 2000 mX12_thrown (.ref 161 :: ([] : List Int32).map Value.int) σ2 = some (some (.int kv), σ3) → lw_sm σ σ2 → lw_sm σ2 σ3 → Inv (i + 1) σ3 → lw_V s D cA cJ base q σ f1 H1 locs1 → (kv = 0 → f1 0 = r.toInt64) → W p l e room_1 s m #[Value.ref b] below meth c H1 locs1 (195 + i + 1) (1187153 + 6 * i + 6) (lw_Z below #[Value.ref b] s) (F0 m 352 ls [.int kv]) := by
          intro kv f1 H1 locs1 r σ2 σ3 r1 r2 m1 m2 hI3 hV1 hf
          have hcl : 195 + i + 1 ≤ 600002 := by omega
          have hsl : 1187153 + 6 * i + 6 ≤ 7302232 := by omega
          refine lv_istore (lv' := [(5, .int kv), (0, .ref b), (1, .ref (base + 0)), (2, .ref (base + 161)), (3, .ref q), (4, .int x4)]) hx hb dL_law_352 hl (by decide) rfl (fun ls hl => ?_)
          refine lv_aload_n hx hb dL_law_354 rfl (lv_at hl 3 rfl) ?_
          refine lv_aload_n hx hb dL_law_355 rfl (lv_at hl 1 rfl) ?_
          refine lv_iload hx hb dL_law_356 (lv_at hl 5 rfl) ?_
          refine lv_iconst (v := 1) hx hb dL_law_358 (by decide) ?_
          refine lv_iadd hx hb dL_law_359 ?_
          refine va_sld hx hb hX hbl hbA hV1.2.2.2 hin1 dL_law_360 ?_
          refine lv_aload_n hx hb dL_law_361 rfl (lv_at hl 1 rfl) ?_
          refine lv_iload hx hb dL_law_362 (lv_at hl 5 rfl) ?_
          refine lv_iconst (v := 2) hx hb dL_law_364 (by decide) ?_
          refine lv_iadd hx hb dL_law_365 ?_
          refine va_sld hx hb hX hbl hbA hV1.2.2.2 hin2 dL_law_366 ?_
          refine lw_call (is := [xs (x4 + 1).toNatClampNeg, xs (x4 + 2).toNatClampNeg]) (k := 161) hC dL_law_367 mt_13_56 rfl o1 r1 m1 hl.1 (Nat.le_of_ble_eq_true rfl) hcl hsl hV1 (fun H2 locs2 hV2 => ?_)
          refine lv_istore (lv' := [(6, .int r), (5, .int kv), (0, .ref b), (1, .ref (base + 0)), (2, .ref (base + 161)), (3, .ref q), (4, .int x4)]) hx hb dL_law_370 hl (by decide) rfl (fun ls hl => ?_)
          refine lv_aload_n hx hb dL_law_372 rfl (lv_at hl 4 rfl) ?_
          refine lw_call (is := []) (k := 161) hC dL_law_373 mt_13_57 rfl (lw_sm_o m1 o1) r2 m2 hl.1 (Nat.le_of_ble_eq_true rfl) hcl hsl hV2 (fun H3 locs3 hV3 => ?_)
          refine lv_iload hx hb dL_law_376 (lv_at hl 1 rfl) ?_
          refine lv_icmp_eq (tgt := 383) hx hb dL_law_378 (by decide) (fun _ => ?_) (fun z => absurd rfl z)
          refine lv_iload hx hb dL_law_383 (lv_at hl 1 rfl) ?_
          refine lv_if_ne (tgt := 400) hx hb dL_law_385 (by decide) (fun _ => ?_) (fun z => ?_)
          · refine lv_goto (tgt := 739) hx hb dL_law_400 (by decide) ?_
            exact tail σ3 f1 H3 locs3 ls [(6, .int r), (5, .int kv)] _ _ (by omega) (by omega) hI3 hV3 (lv_sub hl [2, 3, 4, 5, 6, 0, 1] rfl)
          · have hkv : kv = 0 := z
            refine lv_aload_n hx hb dL_law_388 rfl (lv_at hl 5 rfl) ?_
            refine lv_iconst (v := 0) hx hb dL_law_389 (by decide) ?_
            have hPo : va_P D vwCl [(q, .inl (cJ, 1, .inr (.inl f1)))] H3 := fun k x hx => by
              match k, hx with
              | 0, hx => cases hx; exact hV3.2.1
              | k + 1, hx => simp at hx
            have hKo : va_K D vwCl [(cJ, .long)] s := ⟨hKK.1.1, fun k x hx => by
              match k, hx with
              | 0, hx => cases hx; exact hJ
              | k + 1, hx => simp at hx⟩
            refine va_lald hx hb hKo hPo 0 0 rfl rfl (by unfold vp_in; decide) dL_law_390 ?_
            refine lv_iload hx hb dL_law_391 (lv_at hl 0 rfl) ?_
            refine lv_i2l hx hb dL_law_393 rfl ?_
            refine W.lcmp hx hb dL_law_394 ?_
            have e0 : lg_cmp (f1 (0 : Int32).toNatClampNeg) r.toInt64 = 0 := by
              rw [show (0 : Int32).toNatClampNeg = 0 from rfl, hf hkv]
              unfold lg_cmp
              rw [if_neg (by intro hq; exact absurd hq (by simp)), if_pos rfl]
            rw [e0]
            refine lv_if_eq (tgt := 400) hx hb dL_law_395 (by decide) (fun _ => ?_) (fun z => absurd rfl z)
            refine lv_goto (tgt := 739) hx hb dL_law_400 (by decide) ?_
            exact tail σ3 f1 H3 locs3 ls [(6, .int r), (5, .int kv)] _ _ (by omega) (by omega) hI3 hV3 (lv_sub hl [2, 3, 4, 5, 6, 0, 1] rfl)
        refine lw_step_call (rest := []) hC hV hl.1 (Nat.le_of_ble_eq_true rfl) (by omega) (by omega) o0 hsh0.2.2 o2 (fun r hr0 H1 locs1 f1 hV1 hf1 => ?_) (fun ht H1 locs1 hV1 => ?_) s1
        · obtain ⟨σ2, σ3, r1, r2, m1, m2, i3⟩ := s2 r hr0
          exact mid 0 f1 H1 locs1 r σ2 σ3 r1 r2 m1 m2 i3 hV1 (fun _ => hf1)
        · obtain ⟨r, σ2, σ3, r1, r2, m1, m2, i3⟩ := s3 ht
          exact mid 1 f H1 locs1 r σ2 σ3 r1 r2 m1 m2 i3 hV1 (fun z => absurd z (by decide))
      · refine lv_tableIn (tgt := 403) (off := 363) hx hb dL_law_40 (by omega) (by omega) (by rw [hy]; rfl) (by decide) ?_
        obtain ⟨r, σ1, σ2, r1, r2, m1, m2, i2⟩ := hO9 (xs (x4 + 1).toNatClampNeg) (xs (x4 + 2).toNatClampNeg)
        refine lv_aload_n hx hb dL_law_403 rfl (lv_at hl 1 rfl) ?_
        refine lv_aload_n hx hb dL_law_404 rfl (lv_at hl 0 rfl) ?_
        refine lv_iload hx hb dL_law_405 (lv_at hl 4 rfl) ?_
        refine lv_iconst (v := 1) hx hb dL_law_407 (by decide) ?_
        refine lv_iadd hx hb dL_law_408 ?_
        refine va_sld hx hb hX hbl hbA hV.2.2.2 hin1 dL_law_409 ?_
        refine lv_aload_n hx hb dL_law_410 rfl (lv_at hl 0 rfl) ?_
        refine lv_iload hx hb dL_law_411 (lv_at hl 4 rfl) ?_
        refine lv_iconst (v := 2) hx hb dL_law_413 (by decide) ?_
        refine lv_iadd hx hb dL_law_414 ?_
        refine va_sld hx hb hX hbl hbA hV.2.2.2 hin2 dL_law_415 ?_
        refine lw_call (is := [xs (x4 + 1).toNatClampNeg, xs (x4 + 2).toNatClampNeg]) (k := 0) hC dL_law_416 mt_13_60 rfl o0 r1 m1 hl.1 (Nat.le_of_ble_eq_true rfl) hcl hsl hV (fun H locs hV => ?_)
        refine lv_aload_n hx hb dL_law_419 rfl (lv_at hl 2 rfl) ?_
        refine lv_aload_n hx hb dL_law_420 rfl (lv_at hl 0 rfl) ?_
        refine lv_iload hx hb dL_law_421 (lv_at hl 4 rfl) ?_
        refine lv_iconst (v := 1) hx hb dL_law_423 (by decide) ?_
        refine lv_iadd hx hb dL_law_424 ?_
        refine va_sld hx hb hX hbl hbA hV.2.2.2 hin1 dL_law_425 ?_
        refine lv_aload_n hx hb dL_law_426 rfl (lv_at hl 0 rfl) ?_
        refine lv_iload hx hb dL_law_427 (lv_at hl 4 rfl) ?_
        refine lv_iconst (v := 2) hx hb dL_law_429 (by decide) ?_
        refine lv_iadd hx hb dL_law_430 ?_
        refine va_sld hx hb hX hbl hbA hV.2.2.2 hin2 dL_law_431 ?_
        refine lw_call (is := [xs (x4 + 1).toNatClampNeg, xs (x4 + 2).toNatClampNeg]) (k := 161) hC dL_law_432 mt_13_63 rfl (lw_sm_o m1 o1) r2 m2 hl.1 (Nat.le_of_ble_eq_true rfl) hcl hsl hV (fun H locs hV => ?_)
        refine lv_icmp_eq (tgt := 739) hx hb dL_law_435 (by decide) (fun _ => ?_) (fun z => absurd rfl z)
        exact tail σ2 f H locs ls [] _ _ (by omega) (by omega) i2 hV hl
      · refine lv_tableIn (tgt := 440) (off := 400) hx hb dL_law_40 (by omega) (by omega) (by rw [hy]; rfl) (by decide) ?_
        obtain ⟨r, σ1, σ2, r1, r2, m1, m2, i2⟩ := hO10 (xs (x4 + 1).toNatClampNeg) (xs (x4 + 2).toNatClampNeg)
        refine lv_aload_n hx hb dL_law_440 rfl (lv_at hl 1 rfl) ?_
        refine lv_aload_n hx hb dL_law_441 rfl (lv_at hl 0 rfl) ?_
        refine lv_iload hx hb dL_law_442 (lv_at hl 4 rfl) ?_
        refine lv_iconst (v := 1) hx hb dL_law_444 (by decide) ?_
        refine lv_iadd hx hb dL_law_445 ?_
        refine va_sld hx hb hX hbl hbA hV.2.2.2 hin1 dL_law_446 ?_
        refine lv_aload_n hx hb dL_law_447 rfl (lv_at hl 0 rfl) ?_
        refine lv_iload hx hb dL_law_448 (lv_at hl 4 rfl) ?_
        refine lv_iconst (v := 2) hx hb dL_law_450 (by decide) ?_
        refine lv_iadd hx hb dL_law_451 ?_
        refine va_sld hx hb hX hbl hbA hV.2.2.2 hin2 dL_law_452 ?_
        refine lw_call (is := [xs (x4 + 1).toNatClampNeg, xs (x4 + 2).toNatClampNeg]) (k := 0) hC dL_law_453 mt_13_64 rfl o0 r1 m1 hl.1 (Nat.le_of_ble_eq_true rfl) hcl hsl hV (fun H locs hV => ?_)
        refine lv_aload_n hx hb dL_law_456 rfl (lv_at hl 2 rfl) ?_
        refine lv_aload_n hx hb dL_law_457 rfl (lv_at hl 0 rfl) ?_
        refine lv_iload hx hb dL_law_458 (lv_at hl 4 rfl) ?_
        refine lv_iconst (v := 1) hx hb dL_law_460 (by decide) ?_
        refine lv_iadd hx hb dL_law_461 ?_
        refine va_sld hx hb hX hbl hbA hV.2.2.2 hin1 dL_law_462 ?_
        refine lv_aload_n hx hb dL_law_463 rfl (lv_at hl 0 rfl) ?_
        refine lv_iload hx hb dL_law_464 (lv_at hl 4 rfl) ?_
        refine lv_iconst (v := 2) hx hb dL_law_466 (by decide) ?_
        refine lv_iadd hx hb dL_law_467 ?_
        refine va_sld hx hb hX hbl hbA hV.2.2.2 hin2 dL_law_468 ?_
        refine lw_call (is := [xs (x4 + 1).toNatClampNeg, xs (x4 + 2).toNatClampNeg]) (k := 161) hC dL_law_469 mt_13_67 rfl (lw_sm_o m1 o1) r2 m2 hl.1 (Nat.le_of_ble_eq_true rfl) hcl hsl hV (fun H locs hV => ?_)
        refine lv_icmp_eq (tgt := 739) hx hb dL_law_472 (by decide) (fun _ => ?_) (fun z => absurd rfl z)
        exact tail σ2 f H locs ls [] _ _ (by omega) (by omega) i2 hV hl
      · refine lv_tableIn (tgt := 477) (off := 437) hx hb dL_law_40 (by omega) (by omega) (by rw [hy]; rfl) (by decide) ?_
        obtain ⟨r, σ1, σ2, r1, r2, m1, m2, i2⟩ := hO11 (xs (x4 + 1).toNatClampNeg)
        refine lv_aload_n hx hb dL_law_477 rfl (lv_at hl 1 rfl) ?_
        refine lv_aload_n hx hb dL_law_478 rfl (lv_at hl 0 rfl) ?_
        refine lv_iload hx hb dL_law_479 (lv_at hl 4 rfl) ?_
        refine lv_iconst (v := 1) hx hb dL_law_481 (by decide) ?_
        refine lv_iadd hx hb dL_law_482 ?_
        refine va_sld hx hb hX hbl hbA hV.2.2.2 hin1 dL_law_483 ?_
        refine lw_call (is := [xs (x4 + 1).toNatClampNeg]) (k := 0) hC dL_law_484 mt_13_68 rfl o0 r1 m1 hl.1 (Nat.le_of_ble_eq_true rfl) hcl hsl hV (fun H locs hV => ?_)
        refine lv_aload_n hx hb dL_law_487 rfl (lv_at hl 2 rfl) ?_
        refine lv_aload_n hx hb dL_law_488 rfl (lv_at hl 0 rfl) ?_
        refine lv_iload hx hb dL_law_489 (lv_at hl 4 rfl) ?_
        refine lv_iconst (v := 1) hx hb dL_law_491 (by decide) ?_
        refine lv_iadd hx hb dL_law_492 ?_
        refine va_sld hx hb hX hbl hbA hV.2.2.2 hin1 dL_law_493 ?_
        refine lw_call (is := [xs (x4 + 1).toNatClampNeg]) (k := 161) hC dL_law_494 mt_13_71 rfl (lw_sm_o m1 o1) r2 m2 hl.1 (Nat.le_of_ble_eq_true rfl) hcl hsl hV (fun H locs hV => ?_)
        refine lv_icmp_eq (tgt := 739) hx hb dL_law_497 (by decide) (fun _ => ?_) (fun z => absurd rfl z)
        exact tail σ2 f H locs ls [] _ _ (by omega) (by omega) i2 hV hl
      · refine lv_tableIn (tgt := 502) (off := 462) hx hb dL_law_40 (by omega) (by omega) (by rw [hy]; rfl) (by decide) ?_
        obtain ⟨r, σ1, σ2, r1, r2, m1, m2, i2⟩ := hO12
        refine lv_aload_n hx hb dL_law_502 rfl (lv_at hl 1 rfl) ?_
        refine lw_call (is := []) (k := 0) hC dL_law_503 mt_13_72 rfl o0 r1 m1 hl.1 (Nat.le_of_ble_eq_true rfl) hcl hsl hV (fun H locs hV => ?_)
        refine lv_aload_n hx hb dL_law_506 rfl (lv_at hl 2 rfl) ?_
        refine lw_call (is := []) (k := 161) hC dL_law_507 mt_13_75 rfl (lw_sm_o m1 o1) r2 m2 hl.1 (Nat.le_of_ble_eq_true rfl) hcl hsl hV (fun H locs hV => ?_)
        refine lv_icmp_eq (tgt := 739) hx hb dL_law_510 (by decide) (fun _ => ?_) (fun z => absurd rfl z)
        exact tail σ2 f H locs ls [] _ _ (by omega) (by omega) i2 hV hl
      · refine lv_tableIn (tgt := 515) (off := 475) hx hb dL_law_40 (by omega) (by omega) (by rw [hy]; rfl) (by decide) ?_
        obtain ⟨r, σ1, σ2, r1, r2, m1, m2, i2⟩ := hO13 (xs (x4 + 1).toNatClampNeg) (xs (x4 + 2).toNatClampNeg)
        refine lv_aload_n hx hb dL_law_515 rfl (lv_at hl 1 rfl) ?_
        refine lv_aload_n hx hb dL_law_516 rfl (lv_at hl 0 rfl) ?_
        refine lv_iload hx hb dL_law_517 (lv_at hl 4 rfl) ?_
        refine lv_iconst (v := 1) hx hb dL_law_519 (by decide) ?_
        refine lv_iadd hx hb dL_law_520 ?_
        refine va_sld hx hb hX hbl hbA hV.2.2.2 hin1 dL_law_521 ?_
        refine lv_aload_n hx hb dL_law_522 rfl (lv_at hl 0 rfl) ?_
        refine lv_iload hx hb dL_law_523 (lv_at hl 4 rfl) ?_
        refine lv_iconst (v := 2) hx hb dL_law_525 (by decide) ?_
        refine lv_iadd hx hb dL_law_526 ?_
        refine va_sld hx hb hX hbl hbA hV.2.2.2 hin2 dL_law_527 ?_
        refine lw_call (is := [xs (x4 + 1).toNatClampNeg, xs (x4 + 2).toNatClampNeg]) (k := 0) hC dL_law_528 mt_13_76 rfl o0 r1 m1 hl.1 (Nat.le_of_ble_eq_true rfl) hcl hsl hV (fun H locs hV => ?_)
        refine lv_aload_n hx hb dL_law_531 rfl (lv_at hl 2 rfl) ?_
        refine lv_aload_n hx hb dL_law_532 rfl (lv_at hl 0 rfl) ?_
        refine lv_iload hx hb dL_law_533 (lv_at hl 4 rfl) ?_
        refine lv_iconst (v := 1) hx hb dL_law_535 (by decide) ?_
        refine lv_iadd hx hb dL_law_536 ?_
        refine va_sld hx hb hX hbl hbA hV.2.2.2 hin1 dL_law_537 ?_
        refine lv_aload_n hx hb dL_law_538 rfl (lv_at hl 0 rfl) ?_
        refine lv_iload hx hb dL_law_539 (lv_at hl 4 rfl) ?_
        refine lv_iconst (v := 2) hx hb dL_law_541 (by decide) ?_
        refine lv_iadd hx hb dL_law_542 ?_
        refine va_sld hx hb hX hbl hbA hV.2.2.2 hin2 dL_law_543 ?_
        refine lw_call (is := [xs (x4 + 1).toNatClampNeg, xs (x4 + 2).toNatClampNeg]) (k := 161) hC dL_law_544 mt_13_79 rfl (lw_sm_o m1 o1) r2 m2 hl.1 (Nat.le_of_ble_eq_true rfl) hcl hsl hV (fun H locs hV => ?_)
        refine lv_icmp_eq (tgt := 739) hx hb dL_law_547 (by decide) (fun _ => ?_) (fun z => absurd rfl z)
        exact tail σ2 f H locs ls [] _ _ (by omega) (by omega) i2 hV hl
      · refine lv_tableIn (tgt := 552) (off := 512) hx hb dL_law_40 (by omega) (by omega) (by rw [hy]; rfl) (by decide) ?_
        obtain ⟨r, σ1, σ2, r1, r2, m1, m2, i2⟩ := hO14 (xs (x4 + 1).toNatClampNeg) (xs (x4 + 2).toNatClampNeg)
        refine lv_aload_n hx hb dL_law_552 rfl (lv_at hl 1 rfl) ?_
        refine lv_aload_n hx hb dL_law_553 rfl (lv_at hl 0 rfl) ?_
        refine lv_iload hx hb dL_law_554 (lv_at hl 4 rfl) ?_
        refine lv_iconst (v := 1) hx hb dL_law_556 (by decide) ?_
        refine lv_iadd hx hb dL_law_557 ?_
        refine va_sld hx hb hX hbl hbA hV.2.2.2 hin1 dL_law_558 ?_
        refine lv_aload_n hx hb dL_law_559 rfl (lv_at hl 0 rfl) ?_
        refine lv_iload hx hb dL_law_560 (lv_at hl 4 rfl) ?_
        refine lv_iconst (v := 2) hx hb dL_law_562 (by decide) ?_
        refine lv_iadd hx hb dL_law_563 ?_
        refine va_sld hx hb hX hbl hbA hV.2.2.2 hin2 dL_law_564 ?_
        refine lw_call (is := [xs (x4 + 1).toNatClampNeg, xs (x4 + 2).toNatClampNeg]) (k := 0) hC dL_law_565 mt_13_80 rfl o0 r1 m1 hl.1 (Nat.le_of_ble_eq_true rfl) hcl hsl hV (fun H locs hV => ?_)
        refine lv_aload_n hx hb dL_law_568 rfl (lv_at hl 2 rfl) ?_
        refine lv_aload_n hx hb dL_law_569 rfl (lv_at hl 0 rfl) ?_
        refine lv_iload hx hb dL_law_570 (lv_at hl 4 rfl) ?_
        refine lv_iconst (v := 1) hx hb dL_law_572 (by decide) ?_
        refine lv_iadd hx hb dL_law_573 ?_
        refine va_sld hx hb hX hbl hbA hV.2.2.2 hin1 dL_law_574 ?_
        refine lv_aload_n hx hb dL_law_575 rfl (lv_at hl 0 rfl) ?_
        refine lv_iload hx hb dL_law_576 (lv_at hl 4 rfl) ?_
        refine lv_iconst (v := 2) hx hb dL_law_578 (by decide) ?_
        refine lv_iadd hx hb dL_law_579 ?_
        refine va_sld hx hb hX hbl hbA hV.2.2.2 hin2 dL_law_580 ?_
        refine lw_call (is := [xs (x4 + 1).toNatClampNeg, xs (x4 + 2).toNatClampNeg]) (k := 161) hC dL_law_581 mt_13_83 rfl (lw_sm_o m1 o1) r2 m2 hl.1 (Nat.le_of_ble_eq_true rfl) hcl hsl hV (fun H locs hV => ?_)
        refine lv_icmp_eq (tgt := 739) hx hb dL_law_584 (by decide) (fun _ => ?_) (fun z => absurd rfl z)
        exact tail σ2 f H locs ls [] _ _ (by omega) (by omega) i2 hV hl
      · refine lv_tableIn (tgt := 589) (off := 549) hx hb dL_law_40 (by omega) (by omega) (by rw [hy]; rfl) (by decide) ?_
        obtain ⟨r, σ1, σ2, r1, r2, m1, m2, i2⟩ := hO15 (xs (x4 + 1).toNatClampNeg)
        refine lv_aload_n hx hb dL_law_589 rfl (lv_at hl 1 rfl) ?_
        refine lv_aload_n hx hb dL_law_590 rfl (lv_at hl 0 rfl) ?_
        refine lv_iload hx hb dL_law_591 (lv_at hl 4 rfl) ?_
        refine lv_iconst (v := 1) hx hb dL_law_593 (by decide) ?_
        refine lv_iadd hx hb dL_law_594 ?_
        refine va_sld hx hb hX hbl hbA hV.2.2.2 hin1 dL_law_595 ?_
        refine lw_call (is := [xs (x4 + 1).toNatClampNeg]) (k := 0) hC dL_law_596 mt_13_84 rfl o0 r1 m1 hl.1 (Nat.le_of_ble_eq_true rfl) hcl hsl hV (fun H locs hV => ?_)
        refine lv_aload_n hx hb dL_law_599 rfl (lv_at hl 2 rfl) ?_
        refine lv_aload_n hx hb dL_law_600 rfl (lv_at hl 0 rfl) ?_
        refine lv_iload hx hb dL_law_601 (lv_at hl 4 rfl) ?_
        refine lv_iconst (v := 1) hx hb dL_law_603 (by decide) ?_
        refine lv_iadd hx hb dL_law_604 ?_
        refine va_sld hx hb hX hbl hbA hV.2.2.2 hin1 dL_law_605 ?_
        refine lw_call (is := [xs (x4 + 1).toNatClampNeg]) (k := 161) hC dL_law_606 mt_13_87 rfl (lw_sm_o m1 o1) r2 m2 hl.1 (Nat.le_of_ble_eq_true rfl) hcl hsl hV (fun H locs hV => ?_)
        refine lv_icmp_eq (tgt := 739) hx hb dL_law_609 (by decide) (fun _ => ?_) (fun z => absurd rfl z)
        exact tail σ2 f H locs ls [] _ _ (by omega) (by omega) i2 hV hl
      · refine lv_tableIn (tgt := 614) (off := 574) hx hb dL_law_40 (by omega) (by omega) (by rw [hy]; rfl) (by decide) ?_
        obtain ⟨r, σ1, σ2, r1, r2, m1, m2, i2⟩ := hO16
        refine lv_aload_n hx hb dL_law_614 rfl (lv_at hl 1 rfl) ?_
        refine lw_call (is := []) (k := 0) hC dL_law_615 mt_13_88 rfl o0 r1 m1 hl.1 (Nat.le_of_ble_eq_true rfl) hcl hsl hV (fun H locs hV => ?_)
        refine lv_aload_n hx hb dL_law_618 rfl (lv_at hl 2 rfl) ?_
        refine lw_call (is := []) (k := 161) hC dL_law_619 mt_13_91 rfl (lw_sm_o m1 o1) r2 m2 hl.1 (Nat.le_of_ble_eq_true rfl) hcl hsl hV (fun H locs hV => ?_)
        refine lv_icmp_eq (tgt := 739) hx hb dL_law_622 (by decide) (fun _ => ?_) (fun z => absurd rfl z)
        exact tail σ2 f H locs ls [] _ _ (by omega) (by omega) i2 hV hl
      · refine lv_tableIn (tgt := 627) (off := 587) hx hb dL_law_40 (by omega) (by omega) (by rw [hy]; rfl) (by decide) ?_
        obtain ⟨r, σ1, σ2, r1, r2, m1, m2, i2⟩ := hO17 (xs (x4 + 1).toNatClampNeg)
        refine lv_aload_n hx hb dL_law_627 rfl (lv_at hl 1 rfl) ?_
        refine lv_aload_n hx hb dL_law_628 rfl (lv_at hl 0 rfl) ?_
        refine lv_iload hx hb dL_law_629 (lv_at hl 4 rfl) ?_
        refine lv_iconst (v := 1) hx hb dL_law_631 (by decide) ?_
        refine lv_iadd hx hb dL_law_632 ?_
        refine va_sld hx hb hX hbl hbA hV.2.2.2 hin1 dL_law_633 ?_
        refine lw_call (is := [xs (x4 + 1).toNatClampNeg]) (k := 0) hC dL_law_634 mt_13_92 rfl o0 r1 m1 hl.1 (Nat.le_of_ble_eq_true rfl) hcl hsl hV (fun H locs hV => ?_)
        refine lv_aload_n hx hb dL_law_637 rfl (lv_at hl 2 rfl) ?_
        refine lv_aload_n hx hb dL_law_638 rfl (lv_at hl 0 rfl) ?_
        refine lv_iload hx hb dL_law_639 (lv_at hl 4 rfl) ?_
        refine lv_iconst (v := 1) hx hb dL_law_641 (by decide) ?_
        refine lv_iadd hx hb dL_law_642 ?_
        refine va_sld hx hb hX hbl hbA hV.2.2.2 hin1 dL_law_643 ?_
        refine lw_call (is := [xs (x4 + 1).toNatClampNeg]) (k := 161) hC dL_law_644 mt_13_95 rfl (lw_sm_o m1 o1) r2 m2 hl.1 (Nat.le_of_ble_eq_true rfl) hcl hsl hV (fun H locs hV => ?_)
        refine lv_icmp_eq (tgt := 739) hx hb dL_law_647 (by decide) (fun _ => ?_) (fun z => absurd rfl z)
        exact tail σ2 f H locs ls [] _ _ (by omega) (by omega) i2 hV hl
      · refine lv_tableIn (tgt := 652) (off := 612) hx hb dL_law_40 (by omega) (by omega) (by rw [hy]; rfl) (by decide) ?_
        obtain ⟨r, σ1, σ2, r1, r2, m1, m2, i2⟩ := hO18 (xs (x4 + 1).toNatClampNeg) (xs (x4 + 2).toNatClampNeg)
        refine lv_aload_n hx hb dL_law_652 rfl (lv_at hl 1 rfl) ?_
        refine lv_aload_n hx hb dL_law_653 rfl (lv_at hl 0 rfl) ?_
        refine lv_iload hx hb dL_law_654 (lv_at hl 4 rfl) ?_
        refine lv_iconst (v := 1) hx hb dL_law_656 (by decide) ?_
        refine lv_iadd hx hb dL_law_657 ?_
        refine va_sld hx hb hX hbl hbA hV.2.2.2 hin1 dL_law_658 ?_
        refine lv_aload_n hx hb dL_law_659 rfl (lv_at hl 0 rfl) ?_
        refine lv_iload hx hb dL_law_660 (lv_at hl 4 rfl) ?_
        refine lv_iconst (v := 2) hx hb dL_law_662 (by decide) ?_
        refine lv_iadd hx hb dL_law_663 ?_
        refine va_sld hx hb hX hbl hbA hV.2.2.2 hin2 dL_law_664 ?_
        refine lw_call (is := [xs (x4 + 1).toNatClampNeg, xs (x4 + 2).toNatClampNeg]) (k := 0) hC dL_law_665 mt_13_96 rfl o0 r1 m1 hl.1 (Nat.le_of_ble_eq_true rfl) hcl hsl hV (fun H locs hV => ?_)
        refine lv_aload_n hx hb dL_law_668 rfl (lv_at hl 2 rfl) ?_
        refine lv_aload_n hx hb dL_law_669 rfl (lv_at hl 0 rfl) ?_
        refine lv_iload hx hb dL_law_670 (lv_at hl 4 rfl) ?_
        refine lv_iconst (v := 1) hx hb dL_law_672 (by decide) ?_
        refine lv_iadd hx hb dL_law_673 ?_
        refine va_sld hx hb hX hbl hbA hV.2.2.2 hin1 dL_law_674 ?_
        refine lv_aload_n hx hb dL_law_675 rfl (lv_at hl 0 rfl) ?_
        refine lv_iload hx hb dL_law_676 (lv_at hl 4 rfl) ?_
        refine lv_iconst (v := 2) hx hb dL_law_678 (by decide) ?_
        refine lv_iadd hx hb dL_law_679 ?_
        refine va_sld hx hb hX hbl hbA hV.2.2.2 hin2 dL_law_680 ?_
        refine lw_call (is := [xs (x4 + 1).toNatClampNeg, xs (x4 + 2).toNatClampNeg]) (k := 161) hC dL_law_681 mt_13_99 rfl (lw_sm_o m1 o1) r2 m2 hl.1 (Nat.le_of_ble_eq_true rfl) hcl hsl hV (fun H locs hV => ?_)
        refine lv_icmp_eq (tgt := 739) hx hb dL_law_684 (by decide) (fun _ => ?_) (fun z => absurd rfl z)
        exact tail σ2 f H locs ls [] _ _ (by omega) (by omega) i2 hV hl
      · refine lv_tableIn (tgt := 689) (off := 649) hx hb dL_law_40 (by omega) (by omega) (by rw [hy]; rfl) (by decide) ?_
        obtain ⟨r, σ1, σ2, r1, r2, m1, m2, i2⟩ := hO19 (xs (x4 + 1).toNatClampNeg)
        refine lv_aload_n hx hb dL_law_689 rfl (lv_at hl 1 rfl) ?_
        refine lv_aload_n hx hb dL_law_690 rfl (lv_at hl 0 rfl) ?_
        refine lv_iload hx hb dL_law_691 (lv_at hl 4 rfl) ?_
        refine lv_iconst (v := 1) hx hb dL_law_693 (by decide) ?_
        refine lv_iadd hx hb dL_law_694 ?_
        refine va_sld hx hb hX hbl hbA hV.2.2.2 hin1 dL_law_695 ?_
        refine lw_call (is := [xs (x4 + 1).toNatClampNeg]) (k := 0) hC dL_law_696 mt_13_100 rfl o0 r1 m1 hl.1 (Nat.le_of_ble_eq_true rfl) hcl hsl hV (fun H locs hV => ?_)
        refine lv_aload_n hx hb dL_law_699 rfl (lv_at hl 2 rfl) ?_
        refine lv_aload_n hx hb dL_law_700 rfl (lv_at hl 0 rfl) ?_
        refine lv_iload hx hb dL_law_701 (lv_at hl 4 rfl) ?_
        refine lv_iconst (v := 1) hx hb dL_law_703 (by decide) ?_
        refine lv_iadd hx hb dL_law_704 ?_
        refine va_sld hx hb hX hbl hbA hV.2.2.2 hin1 dL_law_705 ?_
        refine lw_call (is := [xs (x4 + 1).toNatClampNeg]) (k := 161) hC dL_law_706 mt_13_103 rfl (lw_sm_o m1 o1) r2 m2 hl.1 (Nat.le_of_ble_eq_true rfl) hcl hsl hV (fun H locs hV => ?_)
        refine lv_icmp_eq (tgt := 739) hx hb dL_law_709 (by decide) (fun _ => ?_) (fun z => absurd rfl z)
        exact tail σ2 f H locs ls [] _ _ (by omega) (by omega) i2 hV hl
      · refine lv_tableIn (tgt := 714) (off := 674) hx hb dL_law_40 (by omega) (by omega) (by rw [hy]; rfl) (by decide) ?_
        obtain ⟨r, σ1, σ2, r1, r2, m1, m2, i2⟩ := hO20 (xs (x4 + 1).toNatClampNeg)
        refine lv_aload_n hx hb dL_law_714 rfl (lv_at hl 1 rfl) ?_
        refine lv_aload_n hx hb dL_law_715 rfl (lv_at hl 0 rfl) ?_
        refine lv_iload hx hb dL_law_716 (lv_at hl 4 rfl) ?_
        refine lv_iconst (v := 1) hx hb dL_law_718 (by decide) ?_
        refine lv_iadd hx hb dL_law_719 ?_
        refine va_sld hx hb hX hbl hbA hV.2.2.2 hin1 dL_law_720 ?_
        refine lw_call (is := [xs (x4 + 1).toNatClampNeg]) (k := 0) hC dL_law_721 mt_13_104 rfl o0 r1 m1 hl.1 (Nat.le_of_ble_eq_true rfl) hcl hsl hV (fun H locs hV => ?_)
        refine lv_aload_n hx hb dL_law_724 rfl (lv_at hl 2 rfl) ?_
        refine lv_aload_n hx hb dL_law_725 rfl (lv_at hl 0 rfl) ?_
        refine lv_iload hx hb dL_law_726 (lv_at hl 4 rfl) ?_
        refine lv_iconst (v := 1) hx hb dL_law_728 (by decide) ?_
        refine lv_iadd hx hb dL_law_729 ?_
        refine va_sld hx hb hX hbl hbA hV.2.2.2 hin1 dL_law_730 ?_
        refine lw_call (is := [xs (x4 + 1).toNatClampNeg]) (k := 161) hC dL_law_731 mt_13_107 rfl (lw_sm_o m1 o1) r2 m2 hl.1 (Nat.le_of_ble_eq_true rfl) hcl hsl hV (fun H locs hV => ?_)
        refine lv_icmp_eq (tgt := 739) hx hb dL_law_734 (by decide) (fun _ => ?_) (fun z => absurd rfl z)
        exact tail σ2 f H locs ls [] _ _ (by omega) (by omega) i2 hV hl
