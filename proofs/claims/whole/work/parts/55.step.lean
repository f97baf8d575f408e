/-- the law's own world: the machine's cells, and behind them the row of one long -/
def lw_V (s : State) (D : va_G) (cA : Nat → ClassId) (cJ : ClassId) (base q : Nat) (σ : am_St) (f : Nat → Int64) (H : Heap) (locs : List Loc) : Prop :=
  va_P D vwCl (am_wl cA base σ) H ∧ H[q]? = some (vp_cell cJ (1, .inr (.inl f))) ∧ base + σ.1 ≤ q ∧ va_S (fun a => base ≤ a) s.heap H locs
/-- where the class's step throws -/
def lw_thr (σ : am_St) (a b : Int32) : Prop := g_I σ 102 3 = -1 ∨ a < 0 ∨ g_I σ 102 4 ≤ a ∨ b < 0 ∨ 6 ≤ b
def lw_sm (σ σ1 : am_St) : Prop := σ1.1 = σ.1 ∧ σ1.2.1 = σ.2.1 ∧ σ1.2.2.1 = σ.2.2.1
/-- what the law knows of its frame -/
def lw_Cx (p : Program) (l : Launch) (s : State) (m : MethodId) (meth : Method) (c : Code) (D : va_G) (cA : Nat → ClassId) (cJ : ClassId) (base b : Nat) : Prop :=
  p.tables.exec = Jvm.exec ∧ c.code = code ∧ meth.sig.returnType = ret ∧ c.maxLocals = 7 ∧ s.vm.findClass R_law = some m.cls ∧ (∀ w ∈ lw_tbl, w.before #[Value.ref b] s = true) ∧ meth.locks = false ∧ am_K D cA s ∧ (ArrOfT s cJ .long ∧ va_RA s cJ .long) ∧ s.heap.size = base ∧ l.flags = flags0 ∧ (Jvm.Cond.and given_1 narrow_1).before #[Value.ref b] s = true
section LWS
variable {p : Program} {l : Launch} {e : Env} {s : State} {m : MethodId} {below : List Frame} {meth : Method} {c : Code} {H : Heap} {locs : List Loc} {Q : State → Prop} {cells slots : Nat} {ls : Array Slot} {rest : List Value}
variable {D : va_G} {cA : Nat → ClassId} {cJ : ClassId} {base q b : Nat} {σ σ1 : am_St} {f : Nat → Int64}
theorem lw_step_call {x y : Int32} (hC : lw_Cx p l s m meth c D cA cJ base b) (hV : lw_V s D cA cJ base q σ f H locs) (hls : ls.size = 7) (hcat : (rest.map fun v => v.category).sum ≤ 8) (hc : cells + 1 ≤ 601024) (hs : slots + 6 ≤ 7293034) (hk : g_o σ 0 11) (hR : g_R σ 0 5 = some 102) (hj : g_o σ 102 2)
    (kA : ∀ r, am_run 1900 mX11_step [.ref 0, .int x, .int y] σ = some (some (.int r), σ) → ∀ (H1 : Heap) (locs1 : List Loc) (f1 : Nat → Int64), lw_V s D cA cJ base q σ f1 H1 locs1 → f1 0 = r.toInt64 → W p l e room_1 s m #[Value.ref b] below meth c H1 locs1 (cells + 1) (slots + 6) Q (F0 m 352 ls (.int 0 :: rest)))
    (kB : lw_thr σ x y → ∀ (H1 : Heap) (locs1 : List Loc), lw_V s D cA cJ base q σ f H1 locs1 → W p l e room_1 s m #[Value.ref b] below meth c H1 locs1 (cells + 1) (slots + 6) Q (F0 m 352 ls (.int 1 :: rest)))
    (hor : (∃ r, am_run 1900 mX11_step [.ref 0, .int x, .int y] σ = some (some (.int r), σ)) ∨ lw_thr σ x y) :
    W p l e room_1 s m #[Value.ref b] below meth c H locs cells slots Q (F0 m 349 ls (.ref q :: .int y :: .int x :: .ref (base + 0) :: rest)) := by
  sorry
end LWS
