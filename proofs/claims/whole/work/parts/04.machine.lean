/-! the abstract machine: int-like cells and long cells by the number of the object or array and the place in it; references are the numbers of cd_shT (fixed for ever), 1000+i the text constants, 1100+i their bytes, 1200 the JDK's formatter -/
abbrev cd_M : Type := (Nat → Nat → Int32) × (Nat → Nat → Int64)
def cd_wI (M : cd_M) (k j : Nat) (v : Int32) : cd_M := (fun a => if a = k then upd (M.1 a) j v else M.1 a, M.2)
def cd_wL (M : cd_M) (k j : Nat) (v : Int64) : cd_M := (M.1, fun a => if a = k then vp_updL (M.2 a) j v else M.2 a)
def cd_cI (M : cd_M) (k0 k1 sp dp n : Nat) : cd_M := (fun a => if a = k1 then va_cpy (M.1 k0) (M.1 a) sp dp n else M.1 a, M.2)
def cd_cL (M : cd_M) (k0 k1 sp dp n : Nat) : cd_M := (M.1, fun a => if a = k1 then va_cpy (M.2 k0) (M.2 a) sp dp n else M.2 a)
def cd_sh (k : Nat) : Nat × Nat := cd_shT.getD k (99, 0)
def cd_rf (k j : Nat) : Option Nat := (cd_rfT.getD k []).getD j none
def cd_fv (M : cd_M) (k j : Nat) : Value := match cd_rf k j with
  | some q => .ref q
  | none => .int (M.1 k j)
def cd_lk : List (Nat × Instr × Nat) → Nat → Option (Instr × Nat)
  | [], _ => none
  | q :: r, pc => bif Nat.beq q.1 pc then some q.2 else cd_lk r pc
theorem cd_lk_mem : ∀ (l : List (Nat × Instr × Nat)) (pc : Nat) (x : Instr × Nat), cd_lk l pc = some x → (pc, x) ∈ l
  | [], _, _, h => by cases h
  | q :: r, pc, x, h => by
    rw [cd_lk] at h
    cases hq : Nat.beq q.1 pc with
    | true =>
      rw [hq] at h
      have e : q.1 = pc := Nat.eq_of_beq_eq_true hq
      have e2 : q.2 = x := Option.some.inj h
      rw [← e, ← e2]
      exact List.mem_cons_self
    | false =>
      rw [hq] at h
      exact List.mem_cons_of_mem _ (cd_lk_mem r pc x h)
def cd_lenOK : Instr → Nat → Bool
  | .iload _, n => Nat.beq n 2
  | .lload _, n => Nat.beq n 2
  | .aload _, n => Nat.beq n 2
  | .istore _, n => Nat.beq n 2
  | .lstore _, n => Nat.beq n 2
  | .astore _, n => Nat.beq n 2
  | .bipush _, n => Nat.beq n 2
  | .ldc _, n => Nat.beq n 2
  | .sipush _, n => Nat.beq n 3
  | .ldc_w _, n => Nat.beq n 3
  | .ldc2_w _, n => Nat.beq n 3
  | .iinc _ _, n => Nat.beq n 3
  | .goto _, n => Nat.beq n 3
  | .ifCond _ _, n => Nat.beq n 3
  | .if_icmp _ _, n => Nat.beq n 3
  | .getfield _, n => Nat.beq n 3
  | .putfield _, n => Nat.beq n 3
  | .getstatic _, n => Nat.beq n 3
  | .invokevirtual _, n => Nat.beq n 3
  | .invokestatic _, n => Nat.beq n 3
  | .tableswitch _ _ _ _, _ => true
  | _, n => Nat.beq n 1
def cd_tab (y pc : Nat) : Option (Instr × Nat) := match cd_lk (cd_code y).2 pc with
  | some (i, n) => bif cd_lenOK i n then some (i, n) else none
  | none => none
/-- a place in a table of (own, index, ..) -/
def cd_at2 {α : Type} : List (Nat × Nat × α) → Nat → Nat → Option α
  | [], _, _ => none
  | q :: r, o, i => bif Nat.beq q.1 o && Nat.beq q.2.1 i then some q.2.2 else cd_at2 r o i
theorem cd_at2_mem {α : Type} : ∀ (l : List (Nat × Nat × α)) (o i : Nat) (x : α), cd_at2 l o i = some x → (o, i, x) ∈ l
  | [], _, _, _, h => by cases h
  | q :: r, o, i, x, h => by
    rw [cd_at2] at h
    cases hq : Nat.beq q.1 o && Nat.beq q.2.1 i with
    | true =>
      rw [hq] at h
      simp only [Bool.and_eq_true] at hq
      have e : q.1 = o := Nat.eq_of_beq_eq_true hq.1
      have e1 : q.2.1 = i := Nat.eq_of_beq_eq_true hq.2
      have e2 : q.2.2 = x := Option.some.inj h
      rw [← e, ← e1, ← e2]
      exact List.mem_cons_self
    | false =>
      rw [hq] at h
      exact List.mem_cons_of_mem _ (cd_at2_mem r o i x h)
def cd_in (i : Int32) (n : Nat) : Bool := decide (¬ (i < 0 ∨ n ≤ i.toNatClampNeg))
def cd_ty : Value → Nat
  | .int _ => 0
  | .long _ => 1
  | .ref _ => 2
  | _ => 9
/-- loads and stores: (0 a load, 1 a store; kind; place) -/
def cd_loc : Instr → Option (Nat × Nat × Nat)
  | .iload_n k => some (0, 0, k)
  | .iload k => some (0, 0, k)
  | .lload_n k => some (0, 1, k)
  | .lload k => some (0, 1, k)
  | .aload_n k => some (0, 2, k)
  | .aload k => some (0, 2, k)
  | .istore_n k => some (1, 0, k)
  | .istore k => some (1, 0, k)
  | .lstore_n k => some (1, 1, k)
  | .lstore k => some (1, 1, k)
  | .astore_n k => some (1, 2, k)
  | .astore k => some (1, 2, k)
  | _ => none
def cd_inc : Instr → Option (Nat × Int)
  | .iinc k d => some (k, d)
  | _ => none
def cd_kill : Option Value → Option Value
  | some (.long _) => none
  | some (.double _) => none
  | x => x
def cd_pre (ls : List (Option Value)) : Nat → List (Option Value)
  | 0 => ls
  | j + 1 => ls.set j (cd_kill (ls.getD j none))
def cd_sto (ls : List (Option Value)) (k : Nat) (v : Value) : List (Option Value) :=
  bif Nat.beq (cd_ty v) 1 then ((cd_pre ls k).set k (some v)).set (k + 1) none else (cd_pre ls k).set k (some v)
abbrev cd_A : Type := (Nat × List Value × cd_M) ⊕ (Option Value × cd_M) ⊕ (Nat × List Value × List Value)
def cd_go (pc : Nat) (st : List Value) (M : cd_M) : Option cd_A := some (.inl (pc, st, M))
def cd_i1 (st : List Value) (f : Int32 → List Value → Option cd_A) : Option cd_A := match st with
  | .int a :: r => f a r
  | _ => none
def cd_i2 (st : List Value) (f : Int32 → Int32 → List Value → Option cd_A) : Option cd_A := match st with
  | .int b :: .int a :: r => f a b r
  | _ => none
def cd_l1 (st : List Value) (f : Int64 → List Value → Option cd_A) : Option cd_A := match st with
  | .long a :: r => f a r
  | _ => none
def cd_l2 (st : List Value) (f : Int64 → Int64 → List Value → Option cd_A) : Option cd_A := match st with
  | .long b :: .long a :: r => f a b r
  | _ => none
def cd_li (st : List Value) (f : Int64 → Int32 → List Value → Option cd_A) : Option cd_A := match st with
  | .int b :: .long a :: r => f a b r
  | _ => none
def cd_r1 (st : List Value) (f : Nat → List Value → Option cd_A) : Option cd_A := match st with
  | .ref k :: r => f k r
  | _ => none
def cd_ri (st : List Value) (f : Nat → Int32 → List Value → Option cd_A) : Option cd_A := match st with
  | .int i :: .ref k :: r => f k i r
  | _ => none
def cd_rii (st : List Value) (f : Nat → Int32 → Int32 → List Value → Option cd_A) : Option cd_A := match st with
  | .int x :: .int i :: .ref k :: r => f k i x r
  | _ => none
def cd_ril (st : List Value) (f : Nat → Int32 → Int64 → List Value → Option cd_A) : Option cd_A := match st with
  | .long x :: .int i :: .ref k :: r => f k i x r
  | _ => none
def cd_fi (st : List Value) (f : Nat → Int32 → List Value → Option cd_A) : Option cd_A := match st with
  | .int x :: .ref k :: r => f k x r
  | _ => none
def cd_cpyA (st : List Value) (f : Nat → Int32 → Nat → Int32 → Int32 → List Value → Option cd_A) : Option cd_A := match st with
  | .int n :: .int dp :: .ref k1 :: .int sp :: .ref k0 :: r => f k0 sp k1 dp n r
  | _ => none
/-- a jump's goal -/
def cd_to (pc : Nat) (off : Int) (f : Nat → Option cd_A) : Option cd_A := if (pc : Int) + off = (((pc : Int) + off).toNat : Int) then f ((pc : Int) + off).toNat else none
def cd_own (y : Nat) : Nat := cd_mo.getD y 99
def cd_cat (st : List Value) : Nat := (st.map fun v => v.category).sum
def cd_sz (vs : List Value) : Nat := (lg_sl vs).length
def cd_isR (k : Nat) (c : Nat) : Bool := bif Nat.ble 1000 k then Nat.beq c 12 && Nat.ble (k + 1) 1013 else Nat.beq (cd_sh k).1 c
/-- a call of one of the methods: the callee, the arguments, what is left -/
def cd_call (y idx : Nat) (vir : Bool) (st : List Value) : Option cd_A := match cd_at2 cd_lkT (cd_own y) idx with
  | some (yc, kind, _) =>
    let na := cd_mn.getD yc 0
    let as := (st.take na).reverse
    let r := st.drop na
    bif Nat.ble na st.length && Nat.ble (cd_cat r) 8 && Nat.ble (cd_sz as) (cd_ml.getD yc 0) && Nat.ble (cd_mf.getD yc 0 + 1) (cd_mf.getD y 0) && Nat.ble (8 + (cd_ml.getD yc 0 + 11) + cd_mw.getD yc 0) (cd_mw.getD y 0) &&
      (bif vir then Nat.beq kind 0 && (match as with | .ref k :: _ => cd_isR k (cd_own yc) | _ => false) else !(Nat.beq kind 0))
    then some (.inr (.inr (yc, as, r))) else none
  | none => none
def cd_math (n : Nat) (st : List Value) (y pc : Nat) (M : cd_M) : Option cd_A := match n with
  | 0 => cd_i2 st fun a b r => bif Nat.ble 1 (cd_mf.getD y 0) && Nat.ble (cd_cat r + 13) (cd_mw.getD y 0) then cd_go (pc + 3) (.int (if a < b then b else a) :: r) M else none
  | 1 => cd_i2 st fun a b r => bif Nat.ble 1 (cd_mf.getD y 0) && Nat.ble (cd_cat r + 13) (cd_mw.getD y 0) then cd_go (pc + 3) (.int (if b < a then b else a) :: r) M else none
  | 2 => cd_i1 st fun a r => bif Nat.ble 1 (cd_mf.getD y 0) && Nat.ble (cd_cat r + 13) (cd_mw.getD y 0) then cd_go (pc + 3) (.int (if 0 ≤ a then a else 0 - a) :: r) M else none
  | _ => cd_cpyA st fun k0 sp k1 dp n r => bif Nat.ble 1 (cd_mf.getD y 0) && Nat.ble (cd_cat r + 18) (cd_mw.getD y 0) then
      (if (cd_sh k0).1 = (cd_sh k1).1 ∧ ¬ sp < 0 ∧ ¬ dp < 0 ∧ ¬ n < 0 ∧ sp.toNatClampNeg + n.toNatClampNeg ≤ (cd_sh k0).2 ∧ dp.toNatClampNeg + n.toNatClampNeg ≤ (cd_sh k1).2 then
        (if (cd_sh k0).1 = 20 then cd_go (pc + 3) r (cd_cI M k0 k1 sp.toNatClampNeg dp.toNatClampNeg n.toNatClampNeg)
        else if (cd_sh k0).1 = 21 then cd_go (pc + 3) r (cd_cL M k0 k1 sp.toNatClampNeg dp.toNatClampNeg n.toNatClampNeg) else none)
      else none) else none
def cd_get (y idx pc k : Nat) (r : List Value) (M : cd_M) : Option cd_A :=
  bif Nat.ble 1000 k then (bif Nat.beq (cd_own y) 12 && Nat.ble (k + 1) 1013 then (bif Nat.beq idx 9 then cd_go (pc + 3) (.ref (k + 100) :: r) M else bif Nat.beq idx 15 then cd_go (pc + 3) (.int 0 :: r) M else none) else none)
  else match cd_at2 cd_fl (cd_own y) idx with
  | some (ci, sl, _) => if (cd_sh k).1 = ci then cd_go (pc + 3) (cd_fv M k sl :: r) M else none
  | none => match cd_at2 cd_fn (cd_own y) idx with
    | some (ci, sl) => if (cd_sh k).1 = ci then cd_go (pc + 3) (cd_fv M k sl :: r) M else none
    | none => none
def cd_fty (ci sl : Nat) : Option FieldType := (cd_cl[ci]?).bind fun q => parseFieldDescriptor (q.2.1 sl).2.2.1
def cd_put2 (ci sl pc k : Nat) (x : Int32) (r : List Value) (M : cd_M) : Option cd_A :=
  if (cd_sh k).1 = ci ∧ cd_rf k sl = none then (match cd_fty ci sl with
    | some .int => cd_go (pc + 3) r (cd_wI M k sl x)
    | some .boolean => if x = 0 ∨ x = 1 then cd_go (pc + 3) r (cd_wI M k sl x) else none
    | _ => none) else none
def cd_put (y idx pc k : Nat) (x : Int32) (r : List Value) (M : cd_M) : Option cd_A := match cd_at2 cd_fl (cd_own y) idx with
  | some (ci, sl, _) => cd_put2 ci sl pc k x r M
  | none => match cd_at2 cd_fn (cd_own y) idx with
    | some (ci, sl) => cd_put2 ci sl pc k x r M
    | none => none
def cd_sbyte (k : Nat) (i : Int32) : Int32 := (cd_sb.getD (k - 1100) []).getD i.toNatClampNeg 0
/-- one instruction that is no load, no store -/
def cd_oth (y pc len : Nat) (i : Instr) (st : List Value) (M : cd_M) : Option cd_A := match i with
  | .iconst n => cd_go (pc + len) (.int (Int32.ofInt n) :: st) M
  | .bipush n => cd_go (pc + len) (.int (Int8.ofInt n).toInt32 :: st) M
  | .sipush n => cd_go (pc + len) (.int (Int16.ofInt n).toInt32 :: st) M
  | .lconst n => cd_go (pc + len) (.long (Int64.ofNat (n : Nat)) :: st) M
  | .ldc k => match cd_at2 cd_kI (cd_own y) k with
    | some (v, _) => cd_go (pc + len) (.int v :: st) M
    | none => match cd_at2 cd_strI (cd_own y) k with
      | some j => cd_go (pc + len) (.ref (1000 + j) :: st) M
      | none => none
  | .ldc_w k => match cd_at2 cd_kI (cd_own y) k with
    | some (v, _) => cd_go (pc + len) (.int v :: st) M
    | none => none
  | .ldc2_w k => match cd_at2 cd_kL (cd_own y) k with
    | some (v, _) => cd_go (pc + len) (.long v :: st) M
    | none => none
  | .iadd => cd_i2 st fun a b r => cd_go (pc + len) (.int (a + b) :: r) M
  | .isub => cd_i2 st fun a b r => cd_go (pc + len) (.int (a - b) :: r) M
  | .imul => cd_i2 st fun a b r => cd_go (pc + len) (.int (a * b) :: r) M
  | .iand => cd_i2 st fun a b r => cd_go (pc + len) (.int (a &&& b) :: r) M
  | .ior => cd_i2 st fun a b r => cd_go (pc + len) (.int (a ||| b) :: r) M
  | .ishl => cd_i2 st fun a b r => cd_go (pc + len) (.int (a <<< (b &&& 31)) :: r) M
  | .ishr => cd_i2 st fun a b r => cd_go (pc + len) (.int (a >>> (b &&& 31)) :: r) M
  | .iushr => cd_i2 st fun a b r => cd_go (pc + len) (.int (a.toUInt32 >>> (b.toUInt32 &&& Int32.toUInt32 31)).toInt32 :: r) M
  | .idiv => cd_i2 st fun a b r => if b = 0 then none else cd_go (pc + len) (.int (a / b) :: r) M
  | .irem => cd_i2 st fun a b r => if b = 0 then none else cd_go (pc + len) (.int (a - a / b * b) :: r) M
  | .ineg => cd_i1 st fun a r => cd_go (pc + len) (.int (-a) :: r) M
  | .land => cd_l2 st fun a b r => cd_go (pc + len) (.long (a &&& b) :: r) M
  | .lor => cd_l2 st fun a b r => cd_go (pc + len) (.long (a ||| b) :: r) M
  | .lxor => cd_l2 st fun a b r => cd_go (pc + len) (.long (a ^^^ b) :: r) M
  | .lcmp => cd_l2 st fun a b r => cd_go (pc + len) (.int (lg_cmp a b) :: r) M
  | .lshl => cd_li st fun a b r => cd_go (pc + len) (.long (a <<< (b.toInt64 &&& 63)) :: r) M
  | .lushr => cd_li st fun a b r => cd_go (pc + len) (.long (a.toUInt64 >>> (b.toInt64.toUInt64 &&& Int64.toUInt64 63)).toInt64 :: r) M
  | .i2l => cd_i1 st fun a r => cd_go (pc + len) (.long a.toInt64 :: r) M
  | .l2i => cd_l1 st fun a r => cd_go (pc + len) (.int a.toInt32 :: r) M
  | .i2b => cd_i1 st fun a r => cd_go (pc + len) (.int a.toInt8.toInt32 :: r) M
  | .i2c => cd_i1 st fun a r => cd_go (pc + len) (.int (a.toUInt32 % 65536).toInt32 :: r) M
  | .goto off => cd_to pc off fun t => cd_go t st M
  | .ifCond .eq off => cd_i1 st fun a r => cd_to pc off fun t => if a = 0 then cd_go t r M else cd_go (pc + len) r M
  | .ifCond .ne off => cd_i1 st fun a r => cd_to pc off fun t => if a = 0 then cd_go (pc + len) r M else cd_go t r M
  | .ifCond .lt off => cd_i1 st fun a r => cd_to pc off fun t => if a < 0 then cd_go t r M else cd_go (pc + len) r M
  | .ifCond .ge off => cd_i1 st fun a r => cd_to pc off fun t => if 0 ≤ a then cd_go t r M else cd_go (pc + len) r M
  | .ifCond .gt off => cd_i1 st fun a r => cd_to pc off fun t => if 0 < a then cd_go t r M else cd_go (pc + len) r M
  | .ifCond .le off => cd_i1 st fun a r => cd_to pc off fun t => if a ≤ 0 then cd_go t r M else cd_go (pc + len) r M
  | .if_icmp .eq off => cd_i2 st fun a b r => cd_to pc off fun t => if a = b then cd_go t r M else cd_go (pc + len) r M
  | .if_icmp .ne off => cd_i2 st fun a b r => cd_to pc off fun t => if a = b then cd_go (pc + len) r M else cd_go t r M
  | .if_icmp .lt off => cd_i2 st fun a b r => cd_to pc off fun t => if a < b then cd_go t r M else cd_go (pc + len) r M
  | .if_icmp .ge off => cd_i2 st fun a b r => cd_to pc off fun t => if b ≤ a then cd_go t r M else cd_go (pc + len) r M
  | .if_icmp .gt off => cd_i2 st fun a b r => cd_to pc off fun t => if b < a then cd_go t r M else cd_go (pc + len) r M
  | .if_icmp .le off => cd_i2 st fun a b r => cd_to pc off fun t => if a ≤ b then cd_go t r M else cd_go (pc + len) r M
  | .tableswitch dflt lo hi offs => cd_i1 st fun x r => if x.toInt < lo ∨ hi < x.toInt then cd_to pc dflt fun t => cd_go t r M else (match offs[(x.toInt - lo).toNat]? with
    | some off => cd_to pc off fun t => cd_go t r M
    | none => none)
  | .dup => match st with
    | v :: r => if v.category = 1 then cd_go (pc + len) (v :: v :: r) M else none
    | _ => none
  | .pop => match st with
    | v :: r => if v.category = 1 then cd_go (pc + len) r M else none
    | _ => none
  | .dup2 => match st with
    | v :: w :: r => if v.category = 1 ∧ w.category = 1 then cd_go (pc + len) (v :: w :: v :: w :: r) M else none
    | _ => none
  | .iaload => cd_ri st fun k j r => if (cd_sh k).1 = 20 ∧ cd_in j (cd_sh k).2 = true then cd_go (pc + len) (.int (M.1 k j.toNatClampNeg) :: r) M else none
  | .laload => cd_ri st fun k j r => if (cd_sh k).1 = 21 ∧ cd_in j (cd_sh k).2 = true then cd_go (pc + len) (.long (M.2 k j.toNatClampNeg) :: r) M else none
  | .baload => cd_ri st fun k j r => bif Nat.ble 1100 k then (if k < 1113 ∧ cd_in j (cd_sl.getD (k - 1100) 0) = true then cd_go (pc + len) (.int (cd_sbyte k j) :: r) M else none)
      else if ((cd_sh k).1 = 22 ∨ (cd_sh k).1 = 23) ∧ cd_in j (cd_sh k).2 = true then cd_go (pc + len) (.int (M.1 k j.toNatClampNeg) :: r) M else none
  | .iastore => cd_rii st fun k j x r => if (cd_sh k).1 = 20 ∧ cd_in j (cd_sh k).2 = true then cd_go (pc + len) r (cd_wI M k j.toNatClampNeg x) else none
  | .bastore => cd_rii st fun k j x r => if (cd_sh k).1 = 22 ∧ cd_in j (cd_sh k).2 = true then cd_go (pc + len) r (cd_wI M k j.toNatClampNeg (vp_nar .byte x))
      else if (cd_sh k).1 = 23 ∧ cd_in j (cd_sh k).2 = true then cd_go (pc + len) r (cd_wI M k j.toNatClampNeg (vp_nar .boolean x)) else none
  | .lastore => cd_ril st fun k j x r => if (cd_sh k).1 = 21 ∧ cd_in j (cd_sh k).2 = true then cd_go (pc + len) r (cd_wL M k j.toNatClampNeg x) else none
  | .arraylength => cd_r1 st fun k r => bif Nat.ble 1100 k then (if k < 1113 then cd_go (pc + len) (.int (Int32.ofNat (cd_sl.getD (k - 1100) 0)) :: r) M else none)
      else if 20 ≤ (cd_sh k).1 ∧ (cd_sh k).1 ≤ 23 then cd_go (pc + len) (.int (Int32.ofNat (cd_sh k).2) :: r) M else none
  | .getfield idx => cd_r1 st fun k r => cd_get y idx pc k r M
  | .putfield idx => cd_fi st fun k x r => cd_put y idx pc k x r M
  | .getstatic idx => bif Nat.beq (cd_own y) 12 && Nat.beq idx 38 then cd_go (pc + len) (.int 1 :: st) M else bif Nat.beq (cd_own y) 12 && Nat.beq idx 1053 then cd_go (pc + len) (.ref 1200 :: st) M else none
  | .invokevirtual idx => cd_call y idx true st
  | .invokestatic idx => match cd_at2 cd_nat (cd_own y) idx with
    | some (n, _) => cd_math n st y pc M
    | none => cd_call y idx false st
  | .ireturn => match st with
    | [.int v] => match cd_mr.getD y none with
      | some .int => some (.inr (.inl (some (.int v), M)))
      | some .boolean => if v = 0 ∨ v = 1 then some (.inr (.inl (some (.int v), M))) else none
      | some .char => if narrow .char (.int v) = .int v then some (.inr (.inl (some (.int v), M))) else none
      | some .byte => if narrow .byte (.int v) = .int v then some (.inr (.inl (some (.int v), M))) else none
      | _ => none
    | _ => none
  | .lreturn => match st with
    | [.long v] => match cd_mr.getD y none with
      | some .long => some (.inr (.inl (some (.long v), M)))
      | _ => none
    | _ => none
  | .areturn => match st with
    | [.ref k] => match cd_mr.getD y none with
      | some (.object _) => some (.inr (.inl (some (.ref k), M)))
      | _ => none
    | _ => none
  | .return_ => match st with
    | [] => match cd_mr.getD y none with
      | none => bif Nat.ble y 244 then some (.inr (.inl (none, M))) else none
      | _ => none
    | _ => none
  | _ => none
/-- a method's locals at its start -/
def cd_ent (y : Nat) (as : List Value) : List (Option Value) := (lg_sl as).map (fun x => match x with | .val v => some v | _ => none) ++ List.replicate (cd_ml.getD y 0 - (lg_sl as).length) none
def cd_ex : Nat → Nat → Nat → List (Option Value) → List Value → cd_M → Option (Option Value × cd_M)
  | 0, _, _, _, _, _ => none
  | n + 1, y, pc, ls, st, M => match cd_tab y pc with
    | none => none
    | some (i, len) => match cd_loc i with
      | some (0, t, k) => match ls.getD k none with
        | some v => bif Nat.beq (cd_ty v) t then cd_ex n y (pc + len) ls (v :: st) M else none
        | none => none
      | some (_ + 1, t, k) => match st with
        | v :: r => bif Nat.beq (cd_ty v) t && Nat.ble (k + v.category) ls.length then cd_ex n y (pc + len) (cd_sto ls k v) r M else none
        | [] => none
      | none => match cd_inc i with
        | some (k, d) => match ls.getD k none with
          | some (.int x) => bif Nat.ble (k + 1) ls.length then cd_ex n y (pc + len) (cd_sto ls k (.int (x + Int32.ofInt d))) st M else none
          | _ => none
        | none => match cd_oth y pc len i st M with
          | some (.inl (pc', st', M')) => cd_ex n y pc' ls st' M'
          | some (.inr (.inl r)) => some r
          | some (.inr (.inr (yc, as, r))) => match cd_ex n yc 0 (cd_ent yc as) [] M with
            | some (v, M') => cd_ex n y (pc + 3) ls (v.toList ++ r) M'
            | none => none
          | none => none
