/-! ===== the abstract machine: cells by numbers, ints and references apart; one step, many steps, the limit ===== -/
abbrev am_in (i : Int32) (n : Nat) : Prop := ¬ (i < 0 ∨ n ≤ i.toNatClampNeg)
def am_isR : FieldType → Bool
  | .object _ => true
  | .array _ => true
  | _ => false
def am_sI (σ : am_St) (k j : Nat) (v : Int32) : am_St := (σ.1, σ.2.1, σ.2.2.1, fun a b => if a = k ∧ b = j then v else σ.2.2.2.1 a b, σ.2.2.2.2)
def am_sR (σ : am_St) (k j : Nat) (v : Option Nat) : am_St := (σ.1, σ.2.1, σ.2.2.1, σ.2.2.2.1, fun a b => if a = k ∧ b = j then v else σ.2.2.2.2 a b)
/-- a new cell of kind t, length n, z slots -/
def am_al (σ : am_St) (t n z : Nat) : am_St := (σ.1 + 1, σ.2.1 + z, fun a => if a = σ.1 then (t, n) else σ.2.2.1 a, fun a b => if a = σ.1 then 0 else σ.2.2.2.1 a b, fun a b => if a = σ.1 then none else σ.2.2.2.2 a b)
def am_cp (σ : am_St) (src sp dst dp n : Nat) : am_St := (σ.1, σ.2.1, σ.2.2.1, fun a b => if a = dst ∧ dp ≤ b ∧ b < dp + n then σ.2.2.2.1 src (sp + (b - dp)) else σ.2.2.2.1 a b, σ.2.2.2.2)
def am_fld (own idx : Nat) : Option (Nat × Nat) := (am_fldL.find? (fun e => e.1 == own && e.2.1 == idx)).map (fun e => (e.2.2.1, e.2.2.2.1))
def am_mth (own idx kd : Nat) : Option am_I := (am_mthL.find? (fun e => e.1 == own && e.2.1 == idx && e.2.2.1 == kd)).map (fun e => e.2.2.2.1)
def am_cls (own idx : Nat) : Option Nat := (am_clsL.find? (fun e => e.1 == own && e.2.1 == idx)).map (fun e => e.2.2.1)
def am_isO (own idx : Nat) : Bool := am_objL.any (fun e => e.1 == own && e.2.1 == idx)
def am_isC (own idx : Nat) : Bool := am_cpyL.any (fun e => e.1 == own && e.2.1 == idx)
def am_isX (own idx : Nat) : Bool := am_maxL.any (fun e => e.1 == own && e.2.1 == idx)
def am_isM (own idx : Nat) : Bool := am_minL.any (fun e => e.1 == own && e.2.1 == idx)
def am_co (own idx : Nat) : Option Int32 := (am_conL.find? (fun e => e.1 == own && e.2.1 == idx)).map (fun e => e.2.2.1)
def am_cj (own idx : Nat) : Option Int64 := (am_conJ.find? (fun e => e.1 == own && e.2.1 == idx)).map (fun e => e.2.2.1)
abbrev am_L : Type := List (Option Value)
abbrev am_N : Type := (Nat × am_L × List Value × am_St) ⊕ (Option Value × am_St)
def am_nx (pc : Nat) (L : am_L) (S : List Value) (σ : am_St) : Option am_N := some (.inl (pc, L, S, σ))
def am_jp (pc : Nat) (off : Int) (L : am_L) (S : List Value) (σ : am_St) : Option am_N := if 0 ≤ (pc : Int) + off then some (.inl (((pc : Int) + off).toNat, L, S, σ)) else none
def am_ld (L : am_L) (i : Nat) : Value := match L[i]? with
  | some (some v) => v
  | _ => .double 0
def am_stp (mi : am_I) (pc : Nat) (i : Nat) (L : am_L) (v : Value) (S : List Value) (σ : am_St) : Option am_N :=
  if mi.2.2.2.2.2.2 = false ∧ i < mi.2.2.2.1 ∧ i < L.length then am_nx pc (L.set i (some v)) S σ else none
def am_cmp (c : ClassFile.Cond) (x y : Int32) : Bool := match c with
  | .eq => decide (x = y)
  | .ne => decide (x ≠ y)
  | .lt => decide (x < y)
  | .ge => decide (y ≤ x)
  | .gt => decide (y < x)
  | .le => decide (x ≤ y)
def am_calls (call : am_I → List Value → am_St → Option (Option Value × am_St)) (m2 : am_I) (args : List Value) (pc : Nat) (L : am_L) (rest : List Value) (σ : am_St) : Option am_N :=
  if (rest.map fun v => v.category).sum ≤ 8 then
    match call m2 args σ with
    | some (v, σ1) => am_nx (pc + 3) L (v.toList ++ rest) σ1
    | none => none
  else none
def am_copy (pc : Nat) (L : am_L) (rest : List Value) (σ : am_St) (s0 : Nat) (sp : Int32) (d0 : Nat) (dp n : Int32) : Option am_N :=
  if s0 < σ.1 ∧ d0 < σ.1 ∧ (σ.2.2.1 s0).1 = 0 ∧ (σ.2.2.1 d0).1 = 0 ∧ ¬ sp < 0 ∧ ¬ dp < 0 ∧ ¬ n < 0 ∧ sp.toNatClampNeg + n.toNatClampNeg ≤ (σ.2.2.1 s0).2 ∧ dp.toNatClampNeg + n.toNatClampNeg ≤ (σ.2.2.1 d0).2 ∧ (rest.map fun v => v.category).sum ≤ 8
  then am_nx (pc + 3) L rest (am_cp σ s0 sp.toNatClampNeg d0 dp.toNatClampNeg n.toNatClampNeg) else none
def am_aty : ArrayType → Option Nat
  | .int => some 0
  | .byte => some 1
  | _ => none
def am_inv (call : am_I → List Value → am_St → Option (Option Value × am_St)) (mi : am_I) (kd idx : Nat) (pc : Nat) (L : am_L) (S : List Value) (σ : am_St) : Option am_N :=
  match kd with
  | 0 => match am_mth mi.1 idx 0 with
    | some m2 => match S.drop m2.2.2.2.2.2.1 with
      | .ref b :: rest => if b < σ.1 ∧ (σ.2.2.1 b).1 = m2.1 + 4 then am_calls call m2 (.ref b :: (S.take m2.2.2.2.2.2.1).reverse) pc L rest σ else none
      | _ => none
    | none => none
  | 1 => if am_isC mi.1 idx then
      match S with
      | .int n :: .int dp :: .ref d0 :: .int sp :: .ref s0 :: rest => am_copy pc L rest σ s0 sp d0 dp n
      | _ => none
    else if am_isX mi.1 idx then
      match S with
      | .int y :: .int x :: rest => if (rest.map fun v => v.category).sum ≤ 8 then am_nx (pc + 3) L (.int (if x < y then y else x) :: rest) σ else none
      | _ => none
    else if am_isM mi.1 idx then
      match S with
      | .int y :: .int x :: rest => if (rest.map fun v => v.category).sum ≤ 8 then am_nx (pc + 3) L (.int (if y < x then y else x) :: rest) σ else none
      | _ => none
    else match am_mth mi.1 idx 1 with
    | some m2 => if m2.2.2.2.2.2.1 ≤ S.length then am_calls call m2 ((S.take m2.2.2.2.2.2.1).reverse) pc L (S.drop m2.2.2.2.2.2.1) σ else none
    | none => none
  | _ => if am_isO mi.1 idx then
      match S with
      | .ref _ :: rest => if (rest.map fun v => v.category).sum ≤ 8 then am_nx (pc + 3) L rest σ else none
      | _ => none
    else match am_mth mi.1 idx 2 with
    | some m2 => match S.drop m2.2.2.2.2.2.1 with
      | .ref b :: rest => am_calls call m2 (.ref b :: (S.take m2.2.2.2.2.2.1).reverse) pc L rest σ
      | _ => none
    | none => none
def am_get (mi : am_I) (idx : Nat) (pc : Nat) (L : am_L) (S : List Value) (σ : am_St) : Option am_N :=
  match S with
  | .ref k :: rest => match am_fld mi.1 idx with
    | some (ci, j) => if k < σ.1 ∧ (σ.2.2.1 k).1 = ci + 4 then am_nx (pc + 3) L ((if am_isR (am_ty ci j) then va_rf (σ.2.2.2.2 k j) else .int (σ.2.2.2.1 k j)) :: rest) σ else none
    | none => none
  | _ => none
/-- a field may be written here: it isn't final, or this is its class's constructor -/
def am_fin (mi : am_I) (ci j : Nat) : Bool := !(am_T ci j).2.2.2 || (mi.2.1.name == "<init>" && mi.1 == ci)
def am_put (mi : am_I) (idx : Nat) (pc : Nat) (L : am_L) (S : List Value) (σ : am_St) : Option am_N :=
  match S with
  | .int x :: .ref k :: rest => match am_fld mi.1 idx with
    | some (ci, j) => if k < σ.1 ∧ (σ.2.2.1 k).1 = ci + 4 ∧ am_fin mi ci j = true ∧ am_isR (am_ty ci j) = false ∧ narrow (am_ty ci j) (.int x) = .int x ∧ fits (am_ty ci j) (.int x) = true then am_nx (pc + 3) L rest (am_sI σ k j x) else none
    | none => none
  | .ref x :: .ref k :: rest => match am_fld mi.1 idx with
    | some (ci, j) => if k < σ.1 ∧ (σ.2.2.1 k).1 = ci + 4 ∧ am_fin mi ci j = true ∧ am_isR (am_ty ci j) = true then am_nx (pc + 3) L rest (am_sR σ k j (some x)) else none
    | none => none
  | .null :: .ref k :: rest => match am_fld mi.1 idx with
    | some (ci, j) => if k < σ.1 ∧ (σ.2.2.1 k).1 = ci + 4 ∧ am_fin mi ci j = true ∧ am_isR (am_ty ci j) = true then am_nx (pc + 3) L rest (am_sR σ k j none) else none
    | none => none
  | _ => none
def am_arr (ins : Instr) (pc : Nat) (L : am_L) (S : List Value) (σ : am_St) : Option am_N :=
  match ins with
  | .iaload => match S with
    | .int i :: .ref k :: rest => if k < σ.1 ∧ (σ.2.2.1 k).1 = 0 ∧ am_in i (σ.2.2.1 k).2 then am_nx (pc + 1) L (.int (σ.2.2.2.1 k i.toNatClampNeg) :: rest) σ else none
    | _ => none
  | .baload => match S with
    | .int i :: .ref k :: rest => if k < σ.1 ∧ (σ.2.2.1 k).1 = 1 ∧ am_in i (σ.2.2.1 k).2 then am_nx (pc + 1) L (.int (σ.2.2.2.1 k i.toNatClampNeg) :: rest) σ else none
    | _ => none
  | .aaload => match S with
    | .int i :: .ref k :: rest => if k < σ.1 ∧ ((σ.2.2.1 k).1 = 2 ∨ (σ.2.2.1 k).1 = 3) ∧ am_in i (σ.2.2.1 k).2 then am_nx (pc + 1) L (va_rf (σ.2.2.2.2 k i.toNatClampNeg) :: rest) σ else none
    | _ => none
  | .iastore => match S with
    | .int x :: .int i :: .ref k :: rest => if k < σ.1 ∧ (σ.2.2.1 k).1 = 0 ∧ am_in i (σ.2.2.1 k).2 then am_nx (pc + 1) L rest (am_sI σ k i.toNatClampNeg x) else none
    | _ => none
  | .bastore => match S with
    | .int x :: .int i :: .ref k :: rest => if k < σ.1 ∧ (σ.2.2.1 k).1 = 1 ∧ am_in i (σ.2.2.1 k).2 then am_nx (pc + 1) L rest (am_sI σ k i.toNatClampNeg (vp_nar .byte x)) else none
    | _ => none
  | .aastore => match S with
    | .ref x :: .int i :: .ref k :: rest => if k < σ.1 ∧ x < σ.1 ∧ (((σ.2.2.1 k).1 = 2 ∧ (σ.2.2.1 x).1 = 8) ∨ ((σ.2.2.1 k).1 = 3 ∧ (σ.2.2.1 x).1 = 11)) ∧ am_in i (σ.2.2.1 k).2 then am_nx (pc + 1) L rest (am_sR σ k i.toNatClampNeg (some x)) else none
    | _ => none
  | .arraylength => match S with
    | .ref k :: rest => if k < σ.1 ∧ (σ.2.2.1 k).1 < 4 then am_nx (pc + 1) L (.int (Int32.ofNat (σ.2.2.1 k).2) :: rest) σ else none
    | _ => none
  | _ => none
def am_mk (mi : am_I) (ins : Instr) (pc : Nat) (L : am_L) (S : List Value) (σ : am_St) : Option am_N :=
  match ins with
  | .new idx => match am_cls mi.1 idx with
    | some ci => am_nx (pc + 3) L (.ref σ.1 :: S) (am_al σ (ci + 4) 0 (am_nf ci))
    | none => none
  | .newarray t => match S with
    | .int n :: rest => match am_aty t with
      | some a => if ¬ n < 0 ∧ n.toNatClampNeg * 4 ≤ 536870912 then am_nx (pc + 2) L (.ref σ.1 :: rest) (am_al σ a n.toNatClampNeg n.toNatClampNeg) else none
      | none => none
    | _ => none
  | .anewarray idx => match S with
    | .int n :: rest => match am_cls mi.1 idx with
      | some ci => if ¬ n < 0 ∧ n.toNatClampNeg * 4 ≤ 536870912 ∧ (ci = 4 ∨ ci = 7) then am_nx (pc + 3) L (.ref σ.1 :: rest) (am_al σ (if ci = 4 then 2 else 3) n.toNatClampNeg n.toNatClampNeg) else none
      | none => none
    | _ => none
  | _ => none
def am_ar (ins : Instr) (pc : Nat) (L : am_L) (S : List Value) (σ : am_St) : Option am_N :=
  match ins, S with
  | .iadd, .int y :: .int x :: S => am_nx (pc + 1) L (.int (x + y) :: S) σ
  | .isub, .int y :: .int x :: S => am_nx (pc + 1) L (.int (x - y) :: S) σ
  | .imul, .int y :: .int x :: S => am_nx (pc + 1) L (.int (x * y) :: S) σ
  | .idiv, .int y :: .int x :: S => if y = 0 then none else am_nx (pc + 1) L (.int (x / y) :: S) σ
  | .irem, .int y :: .int x :: S => if y = 0 then none else am_nx (pc + 1) L (.int (x - x / y * y) :: S) σ
  | .iand, .int y :: .int x :: S => am_nx (pc + 1) L (.int (x &&& y) :: S) σ
  | .ishr, .int y :: .int x :: S => am_nx (pc + 1) L (.int (x >>> (y &&& 31)) :: S) σ
  | .i2l, .int x :: S => am_nx (pc + 1) L (.long x.toInt64 :: S) σ
  | .i2b, .int x :: S => am_nx (pc + 1) L (.int x.toInt8.toInt32 :: S) σ
  | .lcmp, .long y :: .long x :: S => am_nx (pc + 1) L (.int (lg_cmp x y) :: S) σ
  | .dup, a :: S => if a.category = 1 then am_nx (pc + 1) L (a :: a :: S) σ else none
  | .pop, a :: S => if a.category = 1 then am_nx (pc + 1) L S σ else none
  | .dup2, a :: b :: S => if a.category = 1 ∧ b.category = 1 then am_nx (pc + 1) L (a :: b :: a :: b :: S) σ else none
  | .aconst_null, S => am_nx (pc + 1) L (.null :: S) σ
  | _, _ => none
def am_lds (n len : Nat) (pc i : Nat) (L : am_L) (S : List Value) (σ : am_St) : Option am_N :=
  match n, am_ld L i with
  | 0, .int x => am_nx (pc + len) L (.int x :: S) σ
  | 1, .long x => am_nx (pc + len) L (.long x :: S) σ
  | 2, .ref x => am_nx (pc + len) L (.ref x :: S) σ
  | 2, .null => am_nx (pc + len) L (.null :: S) σ
  | 2, .retAddr x => am_nx (pc + len) L (.retAddr x :: S) σ
  | _, _ => none
def am_sts (n len : Nat) (mi : am_I) (pc i : Nat) (L : am_L) (S : List Value) (σ : am_St) : Option am_N :=
  match n, S with
  | 0, .int x :: S => am_stp mi (pc + len) i L (.int x) S σ
  | 2, .ref x :: S => am_stp mi (pc + len) i L (.ref x) S σ
  | 2, .null :: S => am_stp mi (pc + len) i L .null S σ
  | 2, .retAddr x :: S => am_stp mi (pc + len) i L (.retAddr x) S σ
  | _, _ => none
def am_bra (ins : Instr) (pc : Nat) (L : am_L) (S : List Value) (σ : am_St) : Option am_N :=
  match ins, S with
  | .ifCond c off, .int x :: S => if am_cmp c x 0 then am_jp pc off L S σ else if 0 ≤ (pc : Int) + off then am_nx (pc + 3) L S σ else none
  | .if_icmp c off, .int y :: .int x :: S => if am_cmp c x y then am_jp pc off L S σ else if 0 ≤ (pc : Int) + off then am_nx (pc + 3) L S σ else none
  | .ifnull _, .ref _ :: S => am_nx (pc + 3) L S σ
  | .ifnull off, .null :: S => am_jp pc off L S σ
  | .goto off, S => am_jp pc off L S σ
  | .tableswitch dflt lo hi offs, .int x :: S => if x.toInt < lo ∨ hi < x.toInt then am_jp pc dflt L S σ else match offs[(x.toInt - lo).toNat]? with
    | some off => am_jp pc off L S σ
    | none => none
  | .lookupswitch dflt ps, .int x :: S => if (ps.toList.zip (ps.toList.drop 1)).all (fun (a, next) => a.1 < next.1) = true then am_jp pc (Op.lookupswitch.offset ps.toList dflt x.toInt) L S σ else none
  | _, _ => none
def am_ret (mi : am_I) (ins : Instr) (S : List Value) (σ : am_St) : Option am_N :=
  match ins, S, mi.2.2.2.2.1 with
  | .ireturn, [.int v], some ty => if narrow ty (.int v) = .int v then some (.inr (some (.int v), σ)) else none
  | .return_, [], none => some (.inr (none, σ))
  | .areturn, [.ref v], some (.object _) => some (.inr (some (.ref v), σ))
  | _, _, _ => none
def am_ins (call : am_I → List Value → am_St → Option (Option Value × am_St)) (mi : am_I) (ins : Instr) (len pc : Nat) (L : am_L) (S : List Value) (σ : am_St) : Option am_N :=
  match ins with
  | .iconst n => if len = 1 then am_nx (pc + 1) L (.int (Int32.ofInt n) :: S) σ else none
  | .bipush n => if len = 2 then am_nx (pc + 2) L (.int (Int8.ofInt n).toInt32 :: S) σ else none
  | .sipush n => if len = 3 then am_nx (pc + 3) L (.int (Int16.ofInt n).toInt32 :: S) σ else none
  | .lconst n => if len = 1 then am_nx (pc + 1) L (.long (Int64.ofNat (n : Nat)) :: S) σ else none
  | .ldc idx => if len = 2 then match am_co mi.1 idx with
    | some v => am_nx (pc + 2) L (.int v :: S) σ
    | none => none else none
  | .ldc_w idx => if len = 3 then match am_co mi.1 idx with
    | some v => am_nx (pc + 3) L (.int v :: S) σ
    | none => none else none
  | .ldc2_w idx => if len = 3 then match am_cj mi.1 idx with
    | some v => am_nx (pc + 3) L (.long v :: S) σ
    | none => none else none
  | .iload_n k => if len = 1 then am_lds 0 1 pc k L S σ else none
  | .iload i => if len = 2 then am_lds 0 2 pc i L S σ else none
  | .lload_n k => if len = 1 then am_lds 1 1 pc k L S σ else none
  | .lload i => if len = 2 then am_lds 1 2 pc i L S σ else none
  | .aload_n k => if len = 1 then am_lds 2 1 pc k L S σ else none
  | .aload i => if len = 2 then am_lds 2 2 pc i L S σ else none
  | .istore_n k => if len = 1 then am_sts 0 1 mi pc k L S σ else none
  | .istore i => if len = 2 then am_sts 0 2 mi pc i L S σ else none
  | .astore_n k => if len = 1 then am_sts 2 1 mi pc k L S σ else none
  | .astore i => if len = 2 then am_sts 2 2 mi pc i L S σ else none
  | .iinc i n => if len = 3 then match am_ld L i with
    | .int x => am_stp mi (pc + 3) i L (.int (x + Int32.ofInt n)) S σ
    | _ => none else none
  | .getfield idx => if len = 3 then am_get mi idx pc L S σ else none
  | .putfield idx => if len = 3 then am_put mi idx pc L S σ else none
  | .invokevirtual idx => if len = 3 then am_inv call mi 0 idx pc L S σ else none
  | .invokestatic idx => if len = 3 then am_inv call mi 1 idx pc L S σ else none
  | .invokespecial idx => if len = 3 then am_inv call mi 2 idx pc L S σ else none
  | .new idx => if len = 3 then am_mk mi (.new idx) pc L S σ else none
  | .newarray t => if len = 2 then am_mk mi (.newarray t) pc L S σ else none
  | .anewarray idx => if len = 3 then am_mk mi (.anewarray idx) pc L S σ else none
  | .ireturn => if len = 1 then am_ret mi .ireturn S σ else none
  | .return_ => if len = 1 then am_ret mi .return_ S σ else none
  | .areturn => if len = 1 then am_ret mi .areturn S σ else none
  | .ifCond c off => if len = 3 then am_bra (.ifCond c off) pc L S σ else none
  | .if_icmp c off => if len = 3 then am_bra (.if_icmp c off) pc L S σ else none
  | .ifnull off => if len = 3 then am_bra (.ifnull off) pc L S σ else none
  | .goto off => if len = 3 then am_bra (.goto off) pc L S σ else none
  | .tableswitch d lo hi offs => am_bra (.tableswitch d lo hi offs) pc L S σ
  | .lookupswitch d ps => am_bra (.lookupswitch d ps) pc L S σ
  | .iaload => if len = 1 then am_arr .iaload pc L S σ else none
  | .baload => if len = 1 then am_arr .baload pc L S σ else none
  | .aaload => if len = 1 then am_arr .aaload pc L S σ else none
  | .iastore => if len = 1 then am_arr .iastore pc L S σ else none
  | .bastore => if len = 1 then am_arr .bastore pc L S σ else none
  | .aastore => if len = 1 then am_arr .aastore pc L S σ else none
  | .arraylength => if len = 1 then am_arr .arraylength pc L S σ else none
  | i => if len = 1 then am_ar i pc L S σ else none
def am_step (call : am_I → List Value → am_St → Option (Option Value × am_St)) (mi : am_I) (pc : Nat) (L : am_L) (S : List Value) (σ : am_St) : Option am_N :=
  match decode mi.2.2.1 pc with
  | .ok (ins, len) => am_ins call mi ins len pc L S σ
  | .error _ => none
def am_go (call : am_I → List Value → am_St → Option (Option Value × am_St)) (mi : am_I) : Nat → Nat → am_L → List Value → am_St → Option (Option Value × am_St)
  | 0, _, _, _, _ => none
  | f + 1, pc, L, S, σ => match am_step call mi pc L S σ with
    | none => none
    | some (.inr x) => some x
    | some (.inl (pc', L', S', σ')) => am_go call mi f pc' L' S' σ'
theorem am_go_mono {call : am_I → List Value → am_St → Option (Option Value × am_St)} {mi : am_I} {r : Option Value × am_St} : ∀ (f : Nat) (pc : Nat) (L : am_L) (S : List Value) (σ : am_St), am_go call mi f pc L S σ = some r → ∀ k, am_go call mi (f + k) pc L S σ = some r := by
  intro f
  induction f with
  | zero => intro pc L S σ h; exact absurd h (by simp [am_go])
  | succ f ih =>
    intro pc L S σ h k
    rw [show f + 1 + k = (f + k) + 1 by omega]
    unfold am_go at h ⊢
    generalize am_step call mi pc L S σ = q at h ⊢
    match q, h with
    | some (.inr x), h => exact h
    | some (.inl (pc', L', S', σ')), h => exact ih _ _ _ _ h k
noncomputable def am_lim (call : am_I → List Value → am_St → Option (Option Value × am_St)) (mi : am_I) (pc : Nat) (L : am_L) (S : List Value) (σ : am_St) : Option (Option Value × am_St) :=
  @dite _ (∃ r f, am_go call mi f pc L S σ = some r) (Classical.propDecidable _) (fun h => some (Classical.choose h)) (fun _ => none)
theorem am_lim_iff {call : am_I → List Value → am_St → Option (Option Value × am_St)} {mi : am_I} {pc : Nat} {L : am_L} {S : List Value} {σ : am_St} {r : Option Value × am_St} : am_lim call mi pc L S σ = some r ↔ ∃ f, am_go call mi f pc L S σ = some r := by
  unfold am_lim
  constructor
  · intro h
    split at h
    · rename_i h0
      have h1 := Classical.choose_spec h0
      rw [Option.some.inj h] at h1
      exact h1
    · cases h
  · intro ⟨f, h⟩
    have h0 : ∃ r f, am_go call mi f pc L S σ = some r := ⟨r, f, h⟩
    rw [dif_pos h0]
    obtain ⟨g, hg⟩ := Classical.choose_spec h0
    have e1 := am_go_mono f pc L S σ h g
    have e2 := am_go_mono g pc L S σ hg f
    rw [Nat.add_comm] at e2
    rw [e1] at e2
    exact e2.symm
theorem am_lim_step {call : am_I → List Value → am_St → Option (Option Value × am_St)} {mi : am_I} {pc : Nat} {L : am_L} {S : List Value} {σ : am_St} : am_lim call mi pc L S σ = (match am_step call mi pc L S σ with
    | none => none
    | some (.inr x) => some x
    | some (.inl (pc', L', S', σ')) => am_lim call mi pc' L' S' σ') := by
  have key : ∀ r, am_lim call mi pc L S σ = some r ↔ (match am_step call mi pc L S σ with
    | none => none
    | some (.inr x) => some x
    | some (.inl (pc', L', S', σ')) => am_lim call mi pc' L' S' σ') = some r := by
    intro r
    rw [am_lim_iff]
    constructor
    · intro ⟨f, h⟩
      cases f with
      | zero => exact absurd h (by simp [am_go])
      | succ f =>
        unfold am_go at h
        generalize am_step call mi pc L S σ = q at h ⊢
        match q, h with
        | some (.inr x), h => exact h
        | some (.inl (pc', L', S', σ')), h => exact am_lim_iff.mpr ⟨f, h⟩
    · intro h
      match hq : am_step call mi pc L S σ with
      | none => rw [hq] at h; cases h
      | some (.inr x) =>
        rw [hq] at h
        exact ⟨1, by unfold am_go; rw [hq]; exact h⟩
      | some (.inl (pc', L', S', σ')) =>
        rw [hq] at h
        obtain ⟨f, hf⟩ := am_lim_iff.mp h
        exact ⟨f + 1, by unfold am_go; rw [hq]; exact hf⟩
  cases h1 : am_lim call mi pc L S σ with
  | some r => exact ((key r).mp h1).symm
  | none =>
    symm
    generalize hq : (match am_step call mi pc L S σ with
    | none => none
    | some (.inr x) => some x
    | some (.inl (pc', L', S', σ')) => am_lim call mi pc' L' S' σ') = q at key ⊢
    cases q with
    | none => rfl
    | some r => exact absurd ((key r).mpr rfl) (by rw [h1]; exact fun h => by cases h)
def am_ex (args : List Value) : am_L := args.flatMap fun v => if v.category = 2 then [some v, none] else [some v]
def am_en (mi : am_I) (args : List Value) : am_L := am_ex args ++ List.replicate (mi.2.2.2.1 - (am_ex args).length) none
noncomputable def am_run : Nat → am_I → List Value → am_St → Option (Option Value × am_St)
  | 0, _, _, _ => none
  | d + 1, mi, args, σ => if (am_ex args).length ≤ mi.2.2.2.1 ∧ mi.2.2.2.1 ≤ 20 ∧ (mi.2.2.2.2.2.2 = true ∨ args.all (fun v => v.category == 1) = true) then am_lim (am_run d) mi 0 (am_en mi args) [] σ else none
