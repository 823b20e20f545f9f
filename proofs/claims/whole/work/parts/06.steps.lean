/-! the abstract machine's single instructions over the machine -/
theorem cd_i1_e {st : List Value} {f : Int32 → List Value → Option cd_A} {x : cd_A} (h : cd_i1 st f = some x) : ∃ a r, st = .int a :: r ∧ f a r = some x := by
  unfold cd_i1 at h
  split at h
  · exact ⟨_, _, rfl, h⟩
  · cases h
theorem cd_i2_e {st : List Value} {f : Int32 → Int32 → List Value → Option cd_A} {x : cd_A} (h : cd_i2 st f = some x) : ∃ a b r, st = .int b :: .int a :: r ∧ f a b r = some x := by
  unfold cd_i2 at h
  split at h
  · exact ⟨_, _, _, rfl, h⟩
  · cases h
theorem cd_l1_e {st : List Value} {f : Int64 → List Value → Option cd_A} {x : cd_A} (h : cd_l1 st f = some x) : ∃ a r, st = .long a :: r ∧ f a r = some x := by
  unfold cd_l1 at h
  split at h
  · exact ⟨_, _, rfl, h⟩
  · cases h
theorem cd_l2_e {st : List Value} {f : Int64 → Int64 → List Value → Option cd_A} {x : cd_A} (h : cd_l2 st f = some x) : ∃ a b r, st = .long b :: .long a :: r ∧ f a b r = some x := by
  unfold cd_l2 at h
  split at h
  · exact ⟨_, _, _, rfl, h⟩
  · cases h
theorem cd_li_e {st : List Value} {f : Int64 → Int32 → List Value → Option cd_A} {x : cd_A} (h : cd_li st f = some x) : ∃ a b r, st = .int b :: .long a :: r ∧ f a b r = some x := by
  unfold cd_li at h
  split at h
  · exact ⟨_, _, _, rfl, h⟩
  · cases h
theorem cd_r1_e {st : List Value} {f : Nat → List Value → Option cd_A} {x : cd_A} (h : cd_r1 st f = some x) : ∃ k r, st = .ref k :: r ∧ f k r = some x := by
  unfold cd_r1 at h
  split at h
  · exact ⟨_, _, rfl, h⟩
  · cases h
theorem cd_ri_e {st : List Value} {f : Nat → Int32 → List Value → Option cd_A} {x : cd_A} (h : cd_ri st f = some x) : ∃ k i r, st = .int i :: .ref k :: r ∧ f k i r = some x := by
  unfold cd_ri at h
  split at h
  · exact ⟨_, _, _, rfl, h⟩
  · cases h
theorem cd_fi_e {st : List Value} {f : Nat → Int32 → List Value → Option cd_A} {x : cd_A} (h : cd_fi st f = some x) : ∃ k i r, st = .int i :: .ref k :: r ∧ f k i r = some x := by
  unfold cd_fi at h
  split at h
  · exact ⟨_, _, _, rfl, h⟩
  · cases h
theorem cd_rii_e {st : List Value} {f : Nat → Int32 → Int32 → List Value → Option cd_A} {x : cd_A} (h : cd_rii st f = some x) : ∃ k i v r, st = .int v :: .int i :: .ref k :: r ∧ f k i v r = some x := by
  unfold cd_rii at h
  split at h
  · exact ⟨_, _, _, _, rfl, h⟩
  · cases h
theorem cd_ril_e {st : List Value} {f : Nat → Int32 → Int64 → List Value → Option cd_A} {x : cd_A} (h : cd_ril st f = some x) : ∃ k i v r, st = .long v :: .int i :: .ref k :: r ∧ f k i v r = some x := by
  unfold cd_ril at h
  split at h
  · exact ⟨_, _, _, _, rfl, h⟩
  · cases h
theorem cd_cpyA_e {st : List Value} {f : Nat → Int32 → Nat → Int32 → Int32 → List Value → Option cd_A} {x : cd_A} (h : cd_cpyA st f = some x) : ∃ k0 sp k1 dp n r, st = .int n :: .int dp :: .ref k1 :: .int sp :: .ref k0 :: r ∧ f k0 sp k1 dp n r = some x := by
  unfold cd_cpyA at h
  split at h
  · exact ⟨_, _, _, _, _, _, rfl, h⟩
  · cases h
theorem cd_to_e {pc : Nat} {off : Int} {f : Nat → Option cd_A} {x : cd_A} (h : cd_to pc off f = some x) : ∃ t : Nat, (pc : Int) + off = (t : Int) ∧ f t = some x := by
  unfold cd_to at h
  split at h
  · exact ⟨_, by assumption, h⟩
  · cases h
theorem cd_if_e {α : Type} {c : Prop} [Decidable c] {a : Option α} {x : α} (h : (if c then a else none) = some x) : c ∧ a = some x := by
  split at h
  · exact ⟨by assumption, h⟩
  · cases h
theorem cd_ifn_e {α : Type} {c : Prop} [Decidable c] {a : Option α} {x : α} (h : (if c then none else a) = some x) : ¬ c ∧ a = some x := by
  split at h
  · cases h
  · exact ⟨by assumption, h⟩
theorem cd_bif_e {α : Type} {c : Bool} {a : Option α} {x : α} (h : (bif c then a else none) = some x) : c = true ∧ a = some x := by
  cases c with
  | true => exact ⟨rfl, h⟩
  | false => cases h
theorem cd_in_e {i : Int32} {n : Nat} (h : cd_in i n = true) : vp_in i n := of_decide_eq_true (p := ¬ (i < 0 ∨ n ≤ i.toNatClampNeg)) h
theorem cd_go_e {pc : Nat} {st : List Value} {M : cd_M} {x : cd_A} (h : cd_go pc st M = some x) : x = .inl (pc, st, M) := (Option.some.inj h).symm
theorem cd_len1 {n k : Nat} (h : Nat.beq n k = true) : n = k := Nat.eq_of_beq_eq_true h
def cd_room (y : Nat) : Room := { frames := cd_mf.getD y 0, cells := 0, slots := 0, locals := cd_mw.getD y 0 }
def cd_wsO (y : Nat) : List Cond := .code (cd_y y) (cd_code y).1 (cd_ml.getD y 0) (cd_mr.getD y none) :: cd_big
def cd_Q (D : va_G) (cy : Nat → ClassId) (ad : Nat → Nat) (fm : Value) (A : Nat → Prop) (r : Option Value × cd_M) : Array Value → State → Outcome → State → Prop := fun _ st oc t => (oc = .returned (r.1.map (cd_em ad fm)) ∧ va_P D cd_cl (cd_ws cy ad r.2) t.heap ∧ va_K D cd_cl (cd_tys cy) t ∧ va_D A (cd_ws cy ad r.2)) ∧ va_F A st t
/-- the locals -/
def cd_lr (ad : Nat → Nat) (fm : Value) (la : Array Slot) (ls : List (Option Value)) : Prop := la.size = ls.length ∧ lv_wf la ∧ ∀ (i : Nat) (v : Value), ls[i]? = some (some v) → la[i]? = some (.val (cd_em ad fm v))
section cdW
variable {p : Program} {l : Launch} {e : Env} {s : State} {m : MethodId} {args : Array Value} {below : List Frame} {meth : Method} {c : Code} {y : Nat} {D : va_G} {cy : Nat → ClassId} {ad : Nat → Nat} {fm : Value} {A : Nat → Prop}
/-- what holds of the method through all its steps -/
def cd_Cx (p : Program) (s : State) (m : MethodId) (args : Array Value) (meth : Method) (c : Code) (y : Nat) (D : va_G) (cy : Nat → ClassId) (ad : Nat → Nat) (fm : Value) (A : Nat → Prop) : Prop :=
  p.tables.exec = Jvm.exec ∧ c.code = (cd_code y).1 ∧ meth.sig.returnType = cd_mr.getD y none ∧ c.maxLocals = cd_ml.getD y 0 ∧ s.vm.findClass (cd_c (cd_own y)) = some m.cls ∧ (∀ w ∈ cd_big, w.before args s = true) ∧ meth.locks = false ∧ va_K D cd_cl (cd_tys cy) s ∧ cd_St ad fm A s ∧ (∀ q, s.heap.size ≤ q → A q) ∧ y < 245
/-- from here the machine comes to r -/
def cd_OK (p : Program) (l : Launch) (e : Env) (s : State) (m : MethodId) (args : Array Value) (below : List Frame) (meth : Method) (c : Code) (y : Nat) (D : va_G) (cy : Nat → ClassId) (ad : Nat → Nat) (fm : Value) (A : Nat → Prop) (pc : Nat) (ls : List (Option Value)) (st : List Value) (M : cd_M) (r : Option Value × cd_M) : Prop :=
  ∀ (H : Heap) (locs : List Loc) (la : Array Slot), va_P D cd_cl (cd_ws cy ad M) H → va_D A (cd_ws cy ad M) → va_S A s.heap H locs → cd_lr ad fm la ls →
    W p l e (cd_room y) s m args below meth c H locs 0 0 (MQ below (cd_Q D cy ad fm A r) args s 0 0 A) (F0 m pc la (st.map (cd_em ad fm)))

theorem cd_s_iconst (hC : cd_Cx p s m args meth c y D cy ad fm A) {pc : Nat} {ls : List (Option Value)} {rs : List Value} {M : cd_M} {r : Option Value × cd_M} {n : Int} (hd : decode (cd_code y).1 pc = .ok (.iconst n, 1)) (k : cd_OK p l e s m args below meth c y D cy ad fm A (pc + 1) ls (.int (Int32.ofInt n) :: rs) M r) : cd_OK p l e s m args below meth c y D cy ad fm A pc ls rs M r := by
  obtain ⟨hx, hb, hr, hml, hown, hts, hlk, hK, hSt, hA, hy⟩ := hC
  intro H locs la hP hD hS hl
  exact lv_iconst hx hb hd rfl (k H locs la hP hD hS hl)
theorem cd_s_bipush (hC : cd_Cx p s m args meth c y D cy ad fm A) {pc : Nat} {ls : List (Option Value)} {rs : List Value} {M : cd_M} {r : Option Value × cd_M} {n : Int} (hd : decode (cd_code y).1 pc = .ok (.bipush n, 2)) (k : cd_OK p l e s m args below meth c y D cy ad fm A (pc + 2) ls (.int (Int8.ofInt n).toInt32 :: rs) M r) : cd_OK p l e s m args below meth c y D cy ad fm A pc ls rs M r := by
  obtain ⟨hx, hb, hr, hml, hown, hts, hlk, hK, hSt, hA, hy⟩ := hC
  intro H locs la hP hD hS hl
  exact lv_bipush hx hb hd rfl (k H locs la hP hD hS hl)
theorem cd_s_sipush (hC : cd_Cx p s m args meth c y D cy ad fm A) {pc : Nat} {ls : List (Option Value)} {rs : List Value} {M : cd_M} {r : Option Value × cd_M} {n : Int} (hd : decode (cd_code y).1 pc = .ok (.sipush n, 3)) (k : cd_OK p l e s m args below meth c y D cy ad fm A (pc + 3) ls (.int (Int16.ofInt n).toInt32 :: rs) M r) : cd_OK p l e s m args below meth c y D cy ad fm A pc ls rs M r := by
  obtain ⟨hx, hb, hr, hml, hown, hts, hlk, hK, hSt, hA, hy⟩ := hC
  intro H locs la hP hD hS hl
  exact lv_sipush hx hb hd rfl (k H locs la hP hD hS hl)
theorem cd_s_lconst (hC : cd_Cx p s m args meth c y D cy ad fm A) {pc : Nat} {ls : List (Option Value)} {rs : List Value} {M : cd_M} {r : Option Value × cd_M} {n : Fin 2} (hd : decode (cd_code y).1 pc = .ok (.lconst n, 1)) (k : cd_OK p l e s m args below meth c y D cy ad fm A (pc + 1) ls (.long (Int64.ofNat (n : Nat)) :: rs) M r) : cd_OK p l e s m args below meth c y D cy ad fm A pc ls rs M r := by
  obtain ⟨hx, hb, hr, hml, hown, hts, hlk, hK, hSt, hA, hy⟩ := hC
  intro H locs la hP hD hS hl
  exact lv_lconst hx hb hd rfl (k H locs la hP hD hS hl)
theorem cd_s_iadd (hC : cd_Cx p s m args meth c y D cy ad fm A) {pc : Nat} {ls : List (Option Value)} {rs : List Value} {M : cd_M} {r : Option Value × cd_M} {a b : Int32} (hd : decode (cd_code y).1 pc = .ok (.iadd, 1)) (k : cd_OK p l e s m args below meth c y D cy ad fm A (pc + 1) ls (.int (a + b) :: rs) M r) : cd_OK p l e s m args below meth c y D cy ad fm A pc ls (.int b :: .int a :: rs) M r := by
  obtain ⟨hx, hb, hr, hml, hown, hts, hlk, hK, hSt, hA, hy⟩ := hC
  intro H locs la hP hD hS hl
  exact lv_iadd hx hb hd (k H locs la hP hD hS hl)
theorem cd_s_isub (hC : cd_Cx p s m args meth c y D cy ad fm A) {pc : Nat} {ls : List (Option Value)} {rs : List Value} {M : cd_M} {r : Option Value × cd_M} {a b : Int32} (hd : decode (cd_code y).1 pc = .ok (.isub, 1)) (k : cd_OK p l e s m args below meth c y D cy ad fm A (pc + 1) ls (.int (a - b) :: rs) M r) : cd_OK p l e s m args below meth c y D cy ad fm A pc ls (.int b :: .int a :: rs) M r := by
  obtain ⟨hx, hb, hr, hml, hown, hts, hlk, hK, hSt, hA, hy⟩ := hC
  intro H locs la hP hD hS hl
  exact lv_isub hx hb hd (k H locs la hP hD hS hl)
theorem cd_s_imul (hC : cd_Cx p s m args meth c y D cy ad fm A) {pc : Nat} {ls : List (Option Value)} {rs : List Value} {M : cd_M} {r : Option Value × cd_M} {a b : Int32} (hd : decode (cd_code y).1 pc = .ok (.imul, 1)) (k : cd_OK p l e s m args below meth c y D cy ad fm A (pc + 1) ls (.int (a * b) :: rs) M r) : cd_OK p l e s m args below meth c y D cy ad fm A pc ls (.int b :: .int a :: rs) M r := by
  obtain ⟨hx, hb, hr, hml, hown, hts, hlk, hK, hSt, hA, hy⟩ := hC
  intro H locs la hP hD hS hl
  exact lv_imul hx hb hd (k H locs la hP hD hS hl)
theorem cd_s_iand (hC : cd_Cx p s m args meth c y D cy ad fm A) {pc : Nat} {ls : List (Option Value)} {rs : List Value} {M : cd_M} {r : Option Value × cd_M} {a b : Int32} (hd : decode (cd_code y).1 pc = .ok (.iand, 1)) (k : cd_OK p l e s m args below meth c y D cy ad fm A (pc + 1) ls (.int (a &&& b) :: rs) M r) : cd_OK p l e s m args below meth c y D cy ad fm A pc ls (.int b :: .int a :: rs) M r := by
  obtain ⟨hx, hb, hr, hml, hown, hts, hlk, hK, hSt, hA, hy⟩ := hC
  intro H locs la hP hD hS hl
  exact lv_iand hx hb hd (k H locs la hP hD hS hl)
theorem cd_s_ior (hC : cd_Cx p s m args meth c y D cy ad fm A) {pc : Nat} {ls : List (Option Value)} {rs : List Value} {M : cd_M} {r : Option Value × cd_M} {a b : Int32} (hd : decode (cd_code y).1 pc = .ok (.ior, 1)) (k : cd_OK p l e s m args below meth c y D cy ad fm A (pc + 1) ls (.int (a ||| b) :: rs) M r) : cd_OK p l e s m args below meth c y D cy ad fm A pc ls (.int b :: .int a :: rs) M r := by
  obtain ⟨hx, hb, hr, hml, hown, hts, hlk, hK, hSt, hA, hy⟩ := hC
  intro H locs la hP hD hS hl
  exact lv_ior hx hb hd (k H locs la hP hD hS hl)
theorem cd_s_ishl (hC : cd_Cx p s m args meth c y D cy ad fm A) {pc : Nat} {ls : List (Option Value)} {rs : List Value} {M : cd_M} {r : Option Value × cd_M} {a b : Int32} (hd : decode (cd_code y).1 pc = .ok (.ishl, 1)) (k : cd_OK p l e s m args below meth c y D cy ad fm A (pc + 1) ls (.int (a <<< (b &&& 31)) :: rs) M r) : cd_OK p l e s m args below meth c y D cy ad fm A pc ls (.int b :: .int a :: rs) M r := by
  obtain ⟨hx, hb, hr, hml, hown, hts, hlk, hK, hSt, hA, hy⟩ := hC
  intro H locs la hP hD hS hl
  exact lv_ishl hx hb hd (k H locs la hP hD hS hl)
theorem cd_s_ishr (hC : cd_Cx p s m args meth c y D cy ad fm A) {pc : Nat} {ls : List (Option Value)} {rs : List Value} {M : cd_M} {r : Option Value × cd_M} {a b : Int32} (hd : decode (cd_code y).1 pc = .ok (.ishr, 1)) (k : cd_OK p l e s m args below meth c y D cy ad fm A (pc + 1) ls (.int (a >>> (b &&& 31)) :: rs) M r) : cd_OK p l e s m args below meth c y D cy ad fm A pc ls (.int b :: .int a :: rs) M r := by
  obtain ⟨hx, hb, hr, hml, hown, hts, hlk, hK, hSt, hA, hy⟩ := hC
  intro H locs la hP hD hS hl
  exact lv_ishr hx hb hd (k H locs la hP hD hS hl)
theorem cd_s_iushr (hC : cd_Cx p s m args meth c y D cy ad fm A) {pc : Nat} {ls : List (Option Value)} {rs : List Value} {M : cd_M} {r : Option Value × cd_M} {a b : Int32} (hd : decode (cd_code y).1 pc = .ok (.iushr, 1)) (k : cd_OK p l e s m args below meth c y D cy ad fm A (pc + 1) ls (.int (a.toUInt32 >>> (b.toUInt32 &&& Int32.toUInt32 31)).toInt32 :: rs) M r) : cd_OK p l e s m args below meth c y D cy ad fm A pc ls (.int b :: .int a :: rs) M r := by
  obtain ⟨hx, hb, hr, hml, hown, hts, hlk, hK, hSt, hA, hy⟩ := hC
  intro H locs la hP hD hS hl
  exact lv_iushr hx hb hd rfl (k H locs la hP hD hS hl)
theorem cd_s_land (hC : cd_Cx p s m args meth c y D cy ad fm A) {pc : Nat} {ls : List (Option Value)} {rs : List Value} {M : cd_M} {r : Option Value × cd_M} {a b : Int64} (hd : decode (cd_code y).1 pc = .ok (.land, 1)) (k : cd_OK p l e s m args below meth c y D cy ad fm A (pc + 1) ls (.long (a &&& b) :: rs) M r) : cd_OK p l e s m args below meth c y D cy ad fm A pc ls (.long b :: .long a :: rs) M r := by
  obtain ⟨hx, hb, hr, hml, hown, hts, hlk, hK, hSt, hA, hy⟩ := hC
  intro H locs la hP hD hS hl
  exact lv_land hx hb hd (k H locs la hP hD hS hl)
theorem cd_s_lor (hC : cd_Cx p s m args meth c y D cy ad fm A) {pc : Nat} {ls : List (Option Value)} {rs : List Value} {M : cd_M} {r : Option Value × cd_M} {a b : Int64} (hd : decode (cd_code y).1 pc = .ok (.lor, 1)) (k : cd_OK p l e s m args below meth c y D cy ad fm A (pc + 1) ls (.long (a ||| b) :: rs) M r) : cd_OK p l e s m args below meth c y D cy ad fm A pc ls (.long b :: .long a :: rs) M r := by
  obtain ⟨hx, hb, hr, hml, hown, hts, hlk, hK, hSt, hA, hy⟩ := hC
  intro H locs la hP hD hS hl
  exact lv_lor hx hb hd (k H locs la hP hD hS hl)
theorem cd_s_lxor (hC : cd_Cx p s m args meth c y D cy ad fm A) {pc : Nat} {ls : List (Option Value)} {rs : List Value} {M : cd_M} {r : Option Value × cd_M} {a b : Int64} (hd : decode (cd_code y).1 pc = .ok (.lxor, 1)) (k : cd_OK p l e s m args below meth c y D cy ad fm A (pc + 1) ls (.long (a ^^^ b) :: rs) M r) : cd_OK p l e s m args below meth c y D cy ad fm A pc ls (.long b :: .long a :: rs) M r := by
  obtain ⟨hx, hb, hr, hml, hown, hts, hlk, hK, hSt, hA, hy⟩ := hC
  intro H locs la hP hD hS hl
  exact lv_lxor hx hb hd (k H locs la hP hD hS hl)
theorem cd_s_lcmp (hC : cd_Cx p s m args meth c y D cy ad fm A) {pc : Nat} {ls : List (Option Value)} {rs : List Value} {M : cd_M} {r : Option Value × cd_M} {a b : Int64} (hd : decode (cd_code y).1 pc = .ok (.lcmp, 1)) (k : cd_OK p l e s m args below meth c y D cy ad fm A (pc + 1) ls (.int (lg_cmp a b) :: rs) M r) : cd_OK p l e s m args below meth c y D cy ad fm A pc ls (.long b :: .long a :: rs) M r := by
  obtain ⟨hx, hb, hr, hml, hown, hts, hlk, hK, hSt, hA, hy⟩ := hC
  intro H locs la hP hD hS hl
  exact W.lcmp hx hb hd (k H locs la hP hD hS hl)
theorem cd_s_lshl (hC : cd_Cx p s m args meth c y D cy ad fm A) {pc : Nat} {ls : List (Option Value)} {rs : List Value} {M : cd_M} {r : Option Value × cd_M} {a : Int64} {b : Int32} (hd : decode (cd_code y).1 pc = .ok (.lshl, 1)) (k : cd_OK p l e s m args below meth c y D cy ad fm A (pc + 1) ls (.long (a <<< (b.toInt64 &&& 63)) :: rs) M r) : cd_OK p l e s m args below meth c y D cy ad fm A pc ls (.int b :: .long a :: rs) M r := by
  obtain ⟨hx, hb, hr, hml, hown, hts, hlk, hK, hSt, hA, hy⟩ := hC
  intro H locs la hP hD hS hl
  exact lv_lshl hx hb hd rfl (k H locs la hP hD hS hl)
theorem cd_s_lushr (hC : cd_Cx p s m args meth c y D cy ad fm A) {pc : Nat} {ls : List (Option Value)} {rs : List Value} {M : cd_M} {r : Option Value × cd_M} {a : Int64} {b : Int32} (hd : decode (cd_code y).1 pc = .ok (.lushr, 1)) (k : cd_OK p l e s m args below meth c y D cy ad fm A (pc + 1) ls (.long (a.toUInt64 >>> (b.toInt64.toUInt64 &&& Int64.toUInt64 63)).toInt64 :: rs) M r) : cd_OK p l e s m args below meth c y D cy ad fm A pc ls (.int b :: .long a :: rs) M r := by
  obtain ⟨hx, hb, hr, hml, hown, hts, hlk, hK, hSt, hA, hy⟩ := hC
  intro H locs la hP hD hS hl
  exact lv_lushr hx hb hd rfl (k H locs la hP hD hS hl)
theorem cd_s_ineg (hC : cd_Cx p s m args meth c y D cy ad fm A) {pc : Nat} {ls : List (Option Value)} {rs : List Value} {M : cd_M} {r : Option Value × cd_M} {a : Int32} (hd : decode (cd_code y).1 pc = .ok (.ineg, 1)) (k : cd_OK p l e s m args below meth c y D cy ad fm A (pc + 1) ls (.int (-a) :: rs) M r) : cd_OK p l e s m args below meth c y D cy ad fm A pc ls (.int a :: rs) M r := by
  obtain ⟨hx, hb, hr, hml, hown, hts, hlk, hK, hSt, hA, hy⟩ := hC
  intro H locs la hP hD hS hl
  exact lv_ineg hx hb hd (k H locs la hP hD hS hl)
theorem cd_s_i2l (hC : cd_Cx p s m args meth c y D cy ad fm A) {pc : Nat} {ls : List (Option Value)} {rs : List Value} {M : cd_M} {r : Option Value × cd_M} {a : Int32} (hd : decode (cd_code y).1 pc = .ok (.i2l, 1)) (k : cd_OK p l e s m args below meth c y D cy ad fm A (pc + 1) ls (.long a.toInt64 :: rs) M r) : cd_OK p l e s m args below meth c y D cy ad fm A pc ls (.int a :: rs) M r := by
  obtain ⟨hx, hb, hr, hml, hown, hts, hlk, hK, hSt, hA, hy⟩ := hC
  intro H locs la hP hD hS hl
  exact lv_i2l hx hb hd rfl (k H locs la hP hD hS hl)
theorem cd_s_l2i (hC : cd_Cx p s m args meth c y D cy ad fm A) {pc : Nat} {ls : List (Option Value)} {rs : List Value} {M : cd_M} {r : Option Value × cd_M} {a : Int64} (hd : decode (cd_code y).1 pc = .ok (.l2i, 1)) (k : cd_OK p l e s m args below meth c y D cy ad fm A (pc + 1) ls (.int a.toInt32 :: rs) M r) : cd_OK p l e s m args below meth c y D cy ad fm A pc ls (.long a :: rs) M r := by
  obtain ⟨hx, hb, hr, hml, hown, hts, hlk, hK, hSt, hA, hy⟩ := hC
  intro H locs la hP hD hS hl
  exact lv_l2i hx hb hd rfl (k H locs la hP hD hS hl)
theorem cd_s_i2b (hC : cd_Cx p s m args meth c y D cy ad fm A) {pc : Nat} {ls : List (Option Value)} {rs : List Value} {M : cd_M} {r : Option Value × cd_M} {a : Int32} (hd : decode (cd_code y).1 pc = .ok (.i2b, 1)) (k : cd_OK p l e s m args below meth c y D cy ad fm A (pc + 1) ls (.int a.toInt8.toInt32 :: rs) M r) : cd_OK p l e s m args below meth c y D cy ad fm A pc ls (.int a :: rs) M r := by
  obtain ⟨hx, hb, hr, hml, hown, hts, hlk, hK, hSt, hA, hy⟩ := hC
  intro H locs la hP hD hS hl
  exact lv_i2b hx hb hd rfl (k H locs la hP hD hS hl)
theorem cd_s_i2c (hC : cd_Cx p s m args meth c y D cy ad fm A) {pc : Nat} {ls : List (Option Value)} {rs : List Value} {M : cd_M} {r : Option Value × cd_M} {a : Int32} (hd : decode (cd_code y).1 pc = .ok (.i2c, 1)) (k : cd_OK p l e s m args below meth c y D cy ad fm A (pc + 1) ls (.int (a.toUInt32 % 65536).toInt32 :: rs) M r) : cd_OK p l e s m args below meth c y D cy ad fm A pc ls (.int a :: rs) M r := by
  obtain ⟨hx, hb, hr, hml, hown, hts, hlk, hK, hSt, hA, hy⟩ := hC
  intro H locs la hP hD hS hl
  exact lv_i2c hx hb hd rfl (k H locs la hP hD hS hl)
theorem cd_s_idiv (hC : cd_Cx p s m args meth c y D cy ad fm A) {pc : Nat} {ls : List (Option Value)} {rs : List Value} {M : cd_M} {r : Option Value × cd_M} {a b : Int32} (hne : ¬ b = 0) (hd : decode (cd_code y).1 pc = .ok (.idiv, 1)) (k : cd_OK p l e s m args below meth c y D cy ad fm A (pc + 1) ls (.int (a / b) :: rs) M r) : cd_OK p l e s m args below meth c y D cy ad fm A pc ls (.int b :: .int a :: rs) M r := by
  obtain ⟨hx, hb, hr, hml, hown, hts, hlk, hK, hSt, hA, hy⟩ := hC
  intro H locs la hP hD hS hl
  exact lv_idiv hx hb hd hne (k H locs la hP hD hS hl)
theorem cd_s_irem (hC : cd_Cx p s m args meth c y D cy ad fm A) {pc : Nat} {ls : List (Option Value)} {rs : List Value} {M : cd_M} {r : Option Value × cd_M} {a b : Int32} (hne : ¬ b = 0) (hd : decode (cd_code y).1 pc = .ok (.irem, 1)) (k : cd_OK p l e s m args below meth c y D cy ad fm A (pc + 1) ls (.int (a - a / b * b) :: rs) M r) : cd_OK p l e s m args below meth c y D cy ad fm A pc ls (.int b :: .int a :: rs) M r := by
  obtain ⟨hx, hb, hr, hml, hown, hts, hlk, hK, hSt, hA, hy⟩ := hC
  intro H locs la hP hD hS hl
  exact lv_irem hx hb hd hne (k H locs la hP hD hS hl)
theorem cd_s_dup (hC : cd_Cx p s m args meth c y D cy ad fm A) {pc : Nat} {ls : List (Option Value)} {rs : List Value} {M : cd_M} {r : Option Value × cd_M} {v : Value} (hv : v.category = 1) (hd : decode (cd_code y).1 pc = .ok (.dup, 1)) (k : cd_OK p l e s m args below meth c y D cy ad fm A (pc + 1) ls (v :: v :: rs) M r) : cd_OK p l e s m args below meth c y D cy ad fm A pc ls (v :: rs) M r := by
  obtain ⟨hx, hb, hr, hml, hown, hts, hlk, hK, hSt, hA, hy⟩ := hC
  intro H locs la hP hD hS hl
  exact lv_dup hx hb hd ((cd_em_cat ad fm hSt.1 v).trans hv) (k H locs la hP hD hS hl)
theorem cd_s_pop (hC : cd_Cx p s m args meth c y D cy ad fm A) {pc : Nat} {ls : List (Option Value)} {rs : List Value} {M : cd_M} {r : Option Value × cd_M} {v : Value} (hv : v.category = 1) (hd : decode (cd_code y).1 pc = .ok (.pop, 1)) (k : cd_OK p l e s m args below meth c y D cy ad fm A (pc + 1) ls rs M r) : cd_OK p l e s m args below meth c y D cy ad fm A pc ls (v :: rs) M r := by
  obtain ⟨hx, hb, hr, hml, hown, hts, hlk, hK, hSt, hA, hy⟩ := hC
  intro H locs la hP hD hS hl
  exact lv_pop hx hb hd ((cd_em_cat ad fm hSt.1 v).trans hv) (k H locs la hP hD hS hl)
theorem cd_s_dup2 (hC : cd_Cx p s m args meth c y D cy ad fm A) {pc : Nat} {ls : List (Option Value)} {rs : List Value} {M : cd_M} {r : Option Value × cd_M} {v w : Value} (hv : v.category = 1) (hw : w.category = 1) (hd : decode (cd_code y).1 pc = .ok (.dup2, 1)) (k : cd_OK p l e s m args below meth c y D cy ad fm A (pc + 1) ls (v :: w :: v :: w :: rs) M r) : cd_OK p l e s m args below meth c y D cy ad fm A pc ls (v :: w :: rs) M r := by
  obtain ⟨hx, hb, hr, hml, hown, hts, hlk, hK, hSt, hA, hy⟩ := hC
  intro H locs la hP hD hS hl
  exact lv_dup2_11 hx hb hd ((cd_em_cat ad fm hSt.1 v).trans hv) ((cd_em_cat ad fm hSt.1 w).trans hw) (k H locs la hP hD hS hl)
theorem cd_s_ldcI (hC : cd_Cx p s m args meth c y D cy ad fm A) {pc : Nat} {ls : List (Option Value)} {rs : List Value} {M : cd_M} {r : Option Value × cd_M} {n : Nat} {v : Int32} (hc : Cond.constant (cd_c (cd_own y)) n v ∈ cd_big) (hd : decode (cd_code y).1 pc = .ok (.ldc n, 2)) (k : cd_OK p l e s m args below meth c y D cy ad fm A (pc + 2) ls (.int v :: rs) M r) : cd_OK p l e s m args below meth c y D cy ad fm A pc ls rs M r := by
  obtain ⟨hx, hb, hr, hml, hown, hts, hlk, hK, hSt, hA, hy⟩ := hC
  intro H locs la hP hD hS hl
  exact lv_ldc hx hb hown (hts _ hc) hd (k H locs la hP hD hS hl)
theorem cd_s_ldcwI (hC : cd_Cx p s m args meth c y D cy ad fm A) {pc : Nat} {ls : List (Option Value)} {rs : List Value} {M : cd_M} {r : Option Value × cd_M} {n : Nat} {v : Int32} (hc : Cond.constant (cd_c (cd_own y)) n v ∈ cd_big) (hd : decode (cd_code y).1 pc = .ok (.ldc_w n, 3)) (k : cd_OK p l e s m args below meth c y D cy ad fm A (pc + 3) ls (.int v :: rs) M r) : cd_OK p l e s m args below meth c y D cy ad fm A pc ls rs M r := by
  obtain ⟨hx, hb, hr, hml, hown, hts, hlk, hK, hSt, hA, hy⟩ := hC
  intro H locs la hP hD hS hl
  exact lv_ldcw hx hb hown (hts _ hc) hd (k H locs la hP hD hS hl)
theorem cd_s_ldc2 (hC : cd_Cx p s m args meth c y D cy ad fm A) {pc : Nat} {ls : List (Option Value)} {rs : List Value} {M : cd_M} {r : Option Value × cd_M} {n : Nat} {v : Int64} (hc : Cond.constantLong (cd_c (cd_own y)) n v ∈ cd_big) (hd : decode (cd_code y).1 pc = .ok (.ldc2_w n, 3)) (k : cd_OK p l e s m args below meth c y D cy ad fm A (pc + 3) ls (.long v :: rs) M r) : cd_OK p l e s m args below meth c y D cy ad fm A pc ls rs M r := by
  obtain ⟨hx, hb, hr, hml, hown, hts, hlk, hK, hSt, hA, hy⟩ := hC
  intro H locs la hP hD hS hl
  exact lv_ldc2 hx hb hown (hts _ hc) hd (k H locs la hP hD hS hl)
theorem cd_s_ldcS (hC : cd_Cx p s m args meth c y D cy ad fm A) {pc : Nat} {ls : List (Option Value)} {rs : List Value} {M : cd_M} {r : Option Value × cd_M} {n j : Nat} (hj : j < 13) (hc : (cd_own y, n, j) ∈ cd_strI) (hd : decode (cd_code y).1 pc = .ok (.ldc n, 2)) (k : cd_OK p l e s m args below meth c y D cy ad fm A (pc + 2) ls (.ref (1000 + j) :: rs) M r) : cd_OK p l e s m args below meth c y D cy ad fm A pc ls rs M r := by
  obtain ⟨hx, hb, hr, hml, hown, hts, hlk, hK, hSt, hA, hy⟩ := hC
  intro H locs la hP hD hS hl
  have h5 := hSt.2.2.2.1 (cd_own y, n, j) hc
  dsimp only at h5
  have e9 := k H locs la hP hD hS hl
  rw [List.map_cons, cd_em_ref ad fm (show ¬ 1000 + j = 1200 by omega)] at e9
  generalize ad (1000 + j) = q at h5 e9
  exact va_ldcS hx hb hown h5 hd e9
theorem cd_s_goto (hC : cd_Cx p s m args meth c y D cy ad fm A) {pc : Nat} {ls : List (Option Value)} {rs : List Value} {M : cd_M} {r : Option Value × cd_M} {off : Int} {t : Nat} (ht : (pc : Int) + off = (t : Int)) (hd : decode (cd_code y).1 pc = .ok (.goto off, 3)) (k : cd_OK p l e s m args below meth c y D cy ad fm A t ls rs M r) : cd_OK p l e s m args below meth c y D cy ad fm A pc ls rs M r := by
  obtain ⟨hx, hb, hr, hml, hown, hts, hlk, hK, hSt, hA, hy⟩ := hC
  intro H locs la hP hD hS hl
  exact lv_goto hx hb hd ht (k H locs la hP hD hS hl)
theorem cd_s_if_eq (hC : cd_Cx p s m args meth c y D cy ad fm A) {pc : Nat} {ls : List (Option Value)} {rs : List Value} {M : cd_M} {r : Option Value × cd_M} {a : Int32} {off : Int} {t : Nat} (ht : (pc : Int) + off = (t : Int)) (hd : decode (cd_code y).1 pc = .ok (.ifCond .eq off, 3)) (kt : a = 0 → cd_OK p l e s m args below meth c y D cy ad fm A t ls rs M r) (kf : ¬ a = 0 → cd_OK p l e s m args below meth c y D cy ad fm A (pc + 3) ls rs M r) : cd_OK p l e s m args below meth c y D cy ad fm A pc ls (.int a :: rs) M r := by
  obtain ⟨hx, hb, hr, hml, hown, hts, hlk, hK, hSt, hA, hy⟩ := hC
  intro H locs la hP hD hS hl
  exact lv_if_eq hx hb hd ht (fun z => kt z H locs la hP hD hS hl) (fun z => kf z H locs la hP hD hS hl)
theorem cd_s_if_ne (hC : cd_Cx p s m args meth c y D cy ad fm A) {pc : Nat} {ls : List (Option Value)} {rs : List Value} {M : cd_M} {r : Option Value × cd_M} {a : Int32} {off : Int} {t : Nat} (ht : (pc : Int) + off = (t : Int)) (hd : decode (cd_code y).1 pc = .ok (.ifCond .ne off, 3)) (kt : ¬ a = 0 → cd_OK p l e s m args below meth c y D cy ad fm A t ls rs M r) (kf : a = 0 → cd_OK p l e s m args below meth c y D cy ad fm A (pc + 3) ls rs M r) : cd_OK p l e s m args below meth c y D cy ad fm A pc ls (.int a :: rs) M r := by
  obtain ⟨hx, hb, hr, hml, hown, hts, hlk, hK, hSt, hA, hy⟩ := hC
  intro H locs la hP hD hS hl
  exact lv_if_ne hx hb hd ht (fun z => kt z H locs la hP hD hS hl) (fun z => kf z H locs la hP hD hS hl)
theorem cd_s_if_lt (hC : cd_Cx p s m args meth c y D cy ad fm A) {pc : Nat} {ls : List (Option Value)} {rs : List Value} {M : cd_M} {r : Option Value × cd_M} {a : Int32} {off : Int} {t : Nat} (ht : (pc : Int) + off = (t : Int)) (hd : decode (cd_code y).1 pc = .ok (.ifCond .lt off, 3)) (kt : a < 0 → cd_OK p l e s m args below meth c y D cy ad fm A t ls rs M r) (kf : ¬ a < 0 → cd_OK p l e s m args below meth c y D cy ad fm A (pc + 3) ls rs M r) : cd_OK p l e s m args below meth c y D cy ad fm A pc ls (.int a :: rs) M r := by
  obtain ⟨hx, hb, hr, hml, hown, hts, hlk, hK, hSt, hA, hy⟩ := hC
  intro H locs la hP hD hS hl
  exact lv_if_lt hx hb hd ht (fun z => kt z H locs la hP hD hS hl) (fun z => kf z H locs la hP hD hS hl)
theorem cd_s_if_ge (hC : cd_Cx p s m args meth c y D cy ad fm A) {pc : Nat} {ls : List (Option Value)} {rs : List Value} {M : cd_M} {r : Option Value × cd_M} {a : Int32} {off : Int} {t : Nat} (ht : (pc : Int) + off = (t : Int)) (hd : decode (cd_code y).1 pc = .ok (.ifCond .ge off, 3)) (kt : 0 ≤ a → cd_OK p l e s m args below meth c y D cy ad fm A t ls rs M r) (kf : ¬ 0 ≤ a → cd_OK p l e s m args below meth c y D cy ad fm A (pc + 3) ls rs M r) : cd_OK p l e s m args below meth c y D cy ad fm A pc ls (.int a :: rs) M r := by
  obtain ⟨hx, hb, hr, hml, hown, hts, hlk, hK, hSt, hA, hy⟩ := hC
  intro H locs la hP hD hS hl
  exact lv_if_ge hx hb hd ht (fun z => kt z H locs la hP hD hS hl) (fun z => kf z H locs la hP hD hS hl)
theorem cd_s_if_gt (hC : cd_Cx p s m args meth c y D cy ad fm A) {pc : Nat} {ls : List (Option Value)} {rs : List Value} {M : cd_M} {r : Option Value × cd_M} {a : Int32} {off : Int} {t : Nat} (ht : (pc : Int) + off = (t : Int)) (hd : decode (cd_code y).1 pc = .ok (.ifCond .gt off, 3)) (kt : 0 < a → cd_OK p l e s m args below meth c y D cy ad fm A t ls rs M r) (kf : ¬ 0 < a → cd_OK p l e s m args below meth c y D cy ad fm A (pc + 3) ls rs M r) : cd_OK p l e s m args below meth c y D cy ad fm A pc ls (.int a :: rs) M r := by
  obtain ⟨hx, hb, hr, hml, hown, hts, hlk, hK, hSt, hA, hy⟩ := hC
  intro H locs la hP hD hS hl
  exact lv_if_gt hx hb hd ht (fun z => kt z H locs la hP hD hS hl) (fun z => kf z H locs la hP hD hS hl)
theorem cd_s_if_le (hC : cd_Cx p s m args meth c y D cy ad fm A) {pc : Nat} {ls : List (Option Value)} {rs : List Value} {M : cd_M} {r : Option Value × cd_M} {a : Int32} {off : Int} {t : Nat} (ht : (pc : Int) + off = (t : Int)) (hd : decode (cd_code y).1 pc = .ok (.ifCond .le off, 3)) (kt : a ≤ 0 → cd_OK p l e s m args below meth c y D cy ad fm A t ls rs M r) (kf : ¬ a ≤ 0 → cd_OK p l e s m args below meth c y D cy ad fm A (pc + 3) ls rs M r) : cd_OK p l e s m args below meth c y D cy ad fm A pc ls (.int a :: rs) M r := by
  obtain ⟨hx, hb, hr, hml, hown, hts, hlk, hK, hSt, hA, hy⟩ := hC
  intro H locs la hP hD hS hl
  exact lv_if_le hx hb hd ht (fun z => kt z H locs la hP hD hS hl) (fun z => kf z H locs la hP hD hS hl)
theorem cd_s_icmp_eq (hC : cd_Cx p s m args meth c y D cy ad fm A) {pc : Nat} {ls : List (Option Value)} {rs : List Value} {M : cd_M} {r : Option Value × cd_M} {a b : Int32} {off : Int} {t : Nat} (ht : (pc : Int) + off = (t : Int)) (hd : decode (cd_code y).1 pc = .ok (.if_icmp .eq off, 3)) (kt : a = b → cd_OK p l e s m args below meth c y D cy ad fm A t ls rs M r) (kf : ¬ a = b → cd_OK p l e s m args below meth c y D cy ad fm A (pc + 3) ls rs M r) : cd_OK p l e s m args below meth c y D cy ad fm A pc ls (.int b :: .int a :: rs) M r := by
  obtain ⟨hx, hb, hr, hml, hown, hts, hlk, hK, hSt, hA, hy⟩ := hC
  intro H locs la hP hD hS hl
  exact lv_icmp_eq hx hb hd ht (fun z => kt z H locs la hP hD hS hl) (fun z => kf z H locs la hP hD hS hl)
theorem cd_s_icmp_ne (hC : cd_Cx p s m args meth c y D cy ad fm A) {pc : Nat} {ls : List (Option Value)} {rs : List Value} {M : cd_M} {r : Option Value × cd_M} {a b : Int32} {off : Int} {t : Nat} (ht : (pc : Int) + off = (t : Int)) (hd : decode (cd_code y).1 pc = .ok (.if_icmp .ne off, 3)) (kt : ¬ a = b → cd_OK p l e s m args below meth c y D cy ad fm A t ls rs M r) (kf : a = b → cd_OK p l e s m args below meth c y D cy ad fm A (pc + 3) ls rs M r) : cd_OK p l e s m args below meth c y D cy ad fm A pc ls (.int b :: .int a :: rs) M r := by
  obtain ⟨hx, hb, hr, hml, hown, hts, hlk, hK, hSt, hA, hy⟩ := hC
  intro H locs la hP hD hS hl
  exact lv_icmp_ne hx hb hd ht (fun z => kt z H locs la hP hD hS hl) (fun z => kf z H locs la hP hD hS hl)
theorem cd_s_icmp_lt (hC : cd_Cx p s m args meth c y D cy ad fm A) {pc : Nat} {ls : List (Option Value)} {rs : List Value} {M : cd_M} {r : Option Value × cd_M} {a b : Int32} {off : Int} {t : Nat} (ht : (pc : Int) + off = (t : Int)) (hd : decode (cd_code y).1 pc = .ok (.if_icmp .lt off, 3)) (kt : a < b → cd_OK p l e s m args below meth c y D cy ad fm A t ls rs M r) (kf : ¬ a < b → cd_OK p l e s m args below meth c y D cy ad fm A (pc + 3) ls rs M r) : cd_OK p l e s m args below meth c y D cy ad fm A pc ls (.int b :: .int a :: rs) M r := by
  obtain ⟨hx, hb, hr, hml, hown, hts, hlk, hK, hSt, hA, hy⟩ := hC
  intro H locs la hP hD hS hl
  exact lv_icmp_lt hx hb hd ht (fun z => kt z H locs la hP hD hS hl) (fun z => kf z H locs la hP hD hS hl)
theorem cd_s_icmp_ge (hC : cd_Cx p s m args meth c y D cy ad fm A) {pc : Nat} {ls : List (Option Value)} {rs : List Value} {M : cd_M} {r : Option Value × cd_M} {a b : Int32} {off : Int} {t : Nat} (ht : (pc : Int) + off = (t : Int)) (hd : decode (cd_code y).1 pc = .ok (.if_icmp .ge off, 3)) (kt : b ≤ a → cd_OK p l e s m args below meth c y D cy ad fm A t ls rs M r) (kf : ¬ b ≤ a → cd_OK p l e s m args below meth c y D cy ad fm A (pc + 3) ls rs M r) : cd_OK p l e s m args below meth c y D cy ad fm A pc ls (.int b :: .int a :: rs) M r := by
  obtain ⟨hx, hb, hr, hml, hown, hts, hlk, hK, hSt, hA, hy⟩ := hC
  intro H locs la hP hD hS hl
  exact lv_icmp_ge hx hb hd ht (fun z => kt z H locs la hP hD hS hl) (fun z => kf z H locs la hP hD hS hl)
theorem cd_s_icmp_gt (hC : cd_Cx p s m args meth c y D cy ad fm A) {pc : Nat} {ls : List (Option Value)} {rs : List Value} {M : cd_M} {r : Option Value × cd_M} {a b : Int32} {off : Int} {t : Nat} (ht : (pc : Int) + off = (t : Int)) (hd : decode (cd_code y).1 pc = .ok (.if_icmp .gt off, 3)) (kt : b < a → cd_OK p l e s m args below meth c y D cy ad fm A t ls rs M r) (kf : ¬ b < a → cd_OK p l e s m args below meth c y D cy ad fm A (pc + 3) ls rs M r) : cd_OK p l e s m args below meth c y D cy ad fm A pc ls (.int b :: .int a :: rs) M r := by
  obtain ⟨hx, hb, hr, hml, hown, hts, hlk, hK, hSt, hA, hy⟩ := hC
  intro H locs la hP hD hS hl
  exact lv_icmp_gt hx hb hd ht (fun z => kt z H locs la hP hD hS hl) (fun z => kf z H locs la hP hD hS hl)
theorem cd_s_icmp_le (hC : cd_Cx p s m args meth c y D cy ad fm A) {pc : Nat} {ls : List (Option Value)} {rs : List Value} {M : cd_M} {r : Option Value × cd_M} {a b : Int32} {off : Int} {t : Nat} (ht : (pc : Int) + off = (t : Int)) (hd : decode (cd_code y).1 pc = .ok (.if_icmp .le off, 3)) (kt : a ≤ b → cd_OK p l e s m args below meth c y D cy ad fm A t ls rs M r) (kf : ¬ a ≤ b → cd_OK p l e s m args below meth c y D cy ad fm A (pc + 3) ls rs M r) : cd_OK p l e s m args below meth c y D cy ad fm A pc ls (.int b :: .int a :: rs) M r := by
  obtain ⟨hx, hb, hr, hml, hown, hts, hlk, hK, hSt, hA, hy⟩ := hC
  intro H locs la hP hD hS hl
  exact lv_icmp_le hx hb hd ht (fun z => kt z H locs la hP hD hS hl) (fun z => kf z H locs la hP hD hS hl)
theorem cd_s_swOut (hC : cd_Cx p s m args meth c y D cy ad fm A) {pc : Nat} {ls : List (Option Value)} {rs : List Value} {M : cd_M} {r : Option Value × cd_M} {dflt lo hi : Int} {offs : Array Int} {len : Nat} {x : Int32} {t : Nat} (h : x.toInt < lo ∨ hi < x.toInt) (ht : (pc : Int) + dflt = (t : Int)) (hd : decode (cd_code y).1 pc = .ok (.tableswitch dflt lo hi offs, len)) (k : cd_OK p l e s m args below meth c y D cy ad fm A t ls rs M r) : cd_OK p l e s m args below meth c y D cy ad fm A pc ls (.int x :: rs) M r := by
  obtain ⟨hx, hb, hr, hml, hown, hts, hlk, hK, hSt, hA, hy⟩ := hC
  intro H locs la hP hD hS hl
  exact lv_tableOut hx hb hd h ht (k H locs la hP hD hS hl)
theorem cd_s_swIn (hC : cd_Cx p s m args meth c y D cy ad fm A) {pc : Nat} {ls : List (Option Value)} {rs : List Value} {M : cd_M} {r : Option Value × cd_M} {dflt lo hi off : Int} {offs : Array Int} {len : Nat} {x : Int32} {t : Nat} (h : ¬ (x.toInt < lo ∨ hi < x.toInt)) (ho : offs[(x.toInt - lo).toNat]? = some off) (ht : (pc : Int) + off = (t : Int)) (hd : decode (cd_code y).1 pc = .ok (.tableswitch dflt lo hi offs, len)) (k : cd_OK p l e s m args below meth c y D cy ad fm A t ls rs M r) : cd_OK p l e s m args below meth c y D cy ad fm A pc ls (.int x :: rs) M r := by
  obtain ⟨hx, hb, hr, hml, hown, hts, hlk, hK, hSt, hA, hy⟩ := hC
  intro H locs la hP hD hS hl
  exact lv_tableIn hx hb hd (fun z => h (Or.inl z)) (fun z => h (Or.inr z)) ho ht (k H locs la hP hD hS hl)
theorem cd_s_iald (hC : cd_Cx p s m args meth c y D cy ad fm A) {pc : Nat} {ls : List (Option Value)} {rs : List Value} {M : cd_M} {r : Option Value × cd_M} {k : Nat} {j : Int32} (hk : (cd_sh k).1 = 20) (hj : vp_in j (cd_sh k).2) (hd : decode (cd_code y).1 pc = .ok (.iaload, 1)) (kk : cd_OK p l e s m args below meth c y D cy ad fm A (pc + 1) ls (.int (M.1 k j.toNatClampNeg) :: rs) M r) : cd_OK p l e s m args below meth c y D cy ad fm A pc ls (.int j :: .ref k :: rs) M r := by
  obtain ⟨hx, hb, hr, hml, hown, hts, hlk, hK, hSt, hA, hy⟩ := hC
  intro H locs la hP hD hS hl
  have hlt : k < cd_NC := cd_sh_lt (by omega)
  have ha := cd_ws_at (cy := cy) (ad := ad) (M := M) hlt
  rw [cd_cell20 hk] at ha
  show W p l e (cd_room y) s m args below meth c H locs 0 0 _ (F0 m pc la (.int j :: cd_em ad fm (.ref k) :: rs.map (cd_em ad fm)))
  rw [cd_em_ref ad fm (cd_ne1200 hlt)]
  exact va_iald hx hb hK hP k 0 ha rfl hj hd (kk H locs la hP hD hS hl)
theorem cd_s_lald (hC : cd_Cx p s m args meth c y D cy ad fm A) {pc : Nat} {ls : List (Option Value)} {rs : List Value} {M : cd_M} {r : Option Value × cd_M} {k : Nat} {j : Int32} (hk : (cd_sh k).1 = 21) (hj : vp_in j (cd_sh k).2) (hd : decode (cd_code y).1 pc = .ok (.laload, 1)) (kk : cd_OK p l e s m args below meth c y D cy ad fm A (pc + 1) ls (.long (M.2 k j.toNatClampNeg) :: rs) M r) : cd_OK p l e s m args below meth c y D cy ad fm A pc ls (.int j :: .ref k :: rs) M r := by
  obtain ⟨hx, hb, hr, hml, hown, hts, hlk, hK, hSt, hA, hy⟩ := hC
  intro H locs la hP hD hS hl
  have hlt : k < cd_NC := cd_sh_lt (by omega)
  have ha := cd_ws_at (cy := cy) (ad := ad) (M := M) hlt
  rw [cd_cell21 hk] at ha
  show W p l e (cd_room y) s m args below meth c H locs 0 0 _ (F0 m pc la (.int j :: cd_em ad fm (.ref k) :: rs.map (cd_em ad fm)))
  rw [cd_em_ref ad fm (cd_ne1200 hlt)]
  exact va_lald hx hb hK hP k 1 ha rfl hj hd (kk H locs la hP hD hS hl)
theorem cd_s_bald (hC : cd_Cx p s m args meth c y D cy ad fm A) {pc : Nat} {ls : List (Option Value)} {rs : List Value} {M : cd_M} {r : Option Value × cd_M} {k : Nat} {j : Int32} (hk : (cd_sh k).1 = 22) (hj : vp_in j (cd_sh k).2) (hd : decode (cd_code y).1 pc = .ok (.baload, 1)) (kk : cd_OK p l e s m args below meth c y D cy ad fm A (pc + 1) ls (.int (M.1 k j.toNatClampNeg) :: rs) M r) : cd_OK p l e s m args below meth c y D cy ad fm A pc ls (.int j :: .ref k :: rs) M r := by
  obtain ⟨hx, hb, hr, hml, hown, hts, hlk, hK, hSt, hA, hy⟩ := hC
  intro H locs la hP hD hS hl
  have hlt : k < cd_NC := cd_sh_lt (by omega)
  have ha := cd_ws_at (cy := cy) (ad := ad) (M := M) hlt
  rw [cd_cell22 hk] at ha
  show W p l e (cd_room y) s m args below meth c H locs 0 0 _ (F0 m pc la (.int j :: cd_em ad fm (.ref k) :: rs.map (cd_em ad fm)))
  rw [cd_em_ref ad fm (cd_ne1200 hlt)]
  exact va_bald hx hb hK hP k 2 ha rfl hj hd (kk H locs la hP hD hS hl)
theorem cd_s_zald (hC : cd_Cx p s m args meth c y D cy ad fm A) {pc : Nat} {ls : List (Option Value)} {rs : List Value} {M : cd_M} {r : Option Value × cd_M} {k : Nat} {j : Int32} (hk : (cd_sh k).1 = 23) (hj : vp_in j (cd_sh k).2) (hd : decode (cd_code y).1 pc = .ok (.baload, 1)) (kk : cd_OK p l e s m args below meth c y D cy ad fm A (pc + 1) ls (.int (M.1 k j.toNatClampNeg) :: rs) M r) : cd_OK p l e s m args below meth c y D cy ad fm A pc ls (.int j :: .ref k :: rs) M r := by
  obtain ⟨hx, hb, hr, hml, hown, hts, hlk, hK, hSt, hA, hy⟩ := hC
  intro H locs la hP hD hS hl
  have hlt : k < cd_NC := cd_sh_lt (by omega)
  have ha := cd_ws_at (cy := cy) (ad := ad) (M := M) hlt
  rw [cd_cell23 hk] at ha
  show W p l e (cd_room y) s m args below meth c H locs 0 0 _ (F0 m pc la (.int j :: cd_em ad fm (.ref k) :: rs.map (cd_em ad fm)))
  rw [cd_em_ref ad fm (cd_ne1200 hlt)]
  exact va_zald hx hb hK hP k 3 ha rfl hj hd (kk H locs la hP hD hS hl)
theorem cd_s_iast (hC : cd_Cx p s m args meth c y D cy ad fm A) {pc : Nat} {ls : List (Option Value)} {rs : List Value} {M : cd_M} {r : Option Value × cd_M} {k : Nat} {j : Int32} {x : Int32} (hk : (cd_sh k).1 = 20) (hj : vp_in j (cd_sh k).2) (hd : decode (cd_code y).1 pc = .ok (.iastore, 1)) (kk : cd_OK p l e s m args below meth c y D cy ad fm A (pc + 1) ls rs (cd_wI M k j.toNatClampNeg x) r) : cd_OK p l e s m args below meth c y D cy ad fm A pc ls (.int x :: .int j :: .ref k :: rs) M r := by
  obtain ⟨hx, hb, hr, hml, hown, hts, hlk, hK, hSt, hA, hy⟩ := hC
  intro H locs la hP hD hS hl
  have hlt : k < cd_NC := cd_sh_lt (by omega)
  have ha := cd_ws_at (cy := cy) (ad := ad) (M := M) hlt
  rw [cd_cell20 hk] at ha
  show W p l e (cd_room y) s m args below meth c H locs 0 0 _ (F0 m pc la (.int x :: .int j :: cd_em ad fm (.ref k) :: rs.map (cd_em ad fm)))
  rw [cd_em_ref ad fm (cd_ne1200 hlt)]
  refine va_iast hx hb hK hP hD hS k 0 ha rfl hj hd (fun H1 locs1 hP1 hD1 hS1 => ?_)
  have ew := cd_ws_set (cy := cy) (ad := ad) (M := M) (M' := cd_wI M k j.toNatClampNeg x) hlt (by rw [cd_cell20 hk, cd_wI_s]) (fun a h => cd_cell_wI_ne h)
  rw [ew] at hP1 hD1
  exact kk H1 locs1 la hP1 hD1 hS1 hl
theorem cd_s_last (hC : cd_Cx p s m args meth c y D cy ad fm A) {pc : Nat} {ls : List (Option Value)} {rs : List Value} {M : cd_M} {r : Option Value × cd_M} {k : Nat} {j : Int32} {x : Int64} (hk : (cd_sh k).1 = 21) (hj : vp_in j (cd_sh k).2) (hd : decode (cd_code y).1 pc = .ok (.lastore, 1)) (kk : cd_OK p l e s m args below meth c y D cy ad fm A (pc + 1) ls rs (cd_wL M k j.toNatClampNeg x) r) : cd_OK p l e s m args below meth c y D cy ad fm A pc ls (.long x :: .int j :: .ref k :: rs) M r := by
  obtain ⟨hx, hb, hr, hml, hown, hts, hlk, hK, hSt, hA, hy⟩ := hC
  intro H locs la hP hD hS hl
  have hlt : k < cd_NC := cd_sh_lt (by omega)
  have ha := cd_ws_at (cy := cy) (ad := ad) (M := M) hlt
  rw [cd_cell21 hk] at ha
  show W p l e (cd_room y) s m args below meth c H locs 0 0 _ (F0 m pc la (.long x :: .int j :: cd_em ad fm (.ref k) :: rs.map (cd_em ad fm)))
  rw [cd_em_ref ad fm (cd_ne1200 hlt)]
  refine va_last hx hb hK hP hD hS k 1 ha rfl hj hd (fun H1 locs1 hP1 hD1 hS1 => ?_)
  have ew := cd_ws_set (cy := cy) (ad := ad) (M := M) (M' := cd_wL M k j.toNatClampNeg x) hlt (by rw [cd_cell21 hk, cd_wL_s]) (fun a h => cd_cell_wL_ne h)
  rw [ew] at hP1 hD1
  exact kk H1 locs1 la hP1 hD1 hS1 hl
theorem cd_s_bast (hC : cd_Cx p s m args meth c y D cy ad fm A) {pc : Nat} {ls : List (Option Value)} {rs : List Value} {M : cd_M} {r : Option Value × cd_M} {k : Nat} {j : Int32} {x : Int32} (hk : (cd_sh k).1 = 22) (hj : vp_in j (cd_sh k).2) (hd : decode (cd_code y).1 pc = .ok (.bastore, 1)) (kk : cd_OK p l e s m args below meth c y D cy ad fm A (pc + 1) ls rs (cd_wI M k j.toNatClampNeg (vp_nar .byte x)) r) : cd_OK p l e s m args below meth c y D cy ad fm A pc ls (.int x :: .int j :: .ref k :: rs) M r := by
  obtain ⟨hx, hb, hr, hml, hown, hts, hlk, hK, hSt, hA, hy⟩ := hC
  intro H locs la hP hD hS hl
  have hlt : k < cd_NC := cd_sh_lt (by omega)
  have ha := cd_ws_at (cy := cy) (ad := ad) (M := M) hlt
  rw [cd_cell22 hk] at ha
  show W p l e (cd_room y) s m args below meth c H locs 0 0 _ (F0 m pc la (.int x :: .int j :: cd_em ad fm (.ref k) :: rs.map (cd_em ad fm)))
  rw [cd_em_ref ad fm (cd_ne1200 hlt)]
  refine va_bast hx hb hK hP hD hS k 2 ha rfl hj hd (fun H1 locs1 hP1 hD1 hS1 => ?_)
  have ew := cd_ws_set (cy := cy) (ad := ad) (M := M) (M' := cd_wI M k j.toNatClampNeg (vp_nar .byte x)) hlt (by rw [cd_cell22 hk, cd_wI_s]) (fun a h => cd_cell_wI_ne h)
  rw [ew] at hP1 hD1
  exact kk H1 locs1 la hP1 hD1 hS1 hl
theorem cd_s_zast (hC : cd_Cx p s m args meth c y D cy ad fm A) {pc : Nat} {ls : List (Option Value)} {rs : List Value} {M : cd_M} {r : Option Value × cd_M} {k : Nat} {j : Int32} {x : Int32} (hk : (cd_sh k).1 = 23) (hj : vp_in j (cd_sh k).2) (hd : decode (cd_code y).1 pc = .ok (.bastore, 1)) (kk : cd_OK p l e s m args below meth c y D cy ad fm A (pc + 1) ls rs (cd_wI M k j.toNatClampNeg (vp_nar .boolean x)) r) : cd_OK p l e s m args below meth c y D cy ad fm A pc ls (.int x :: .int j :: .ref k :: rs) M r := by
  obtain ⟨hx, hb, hr, hml, hown, hts, hlk, hK, hSt, hA, hy⟩ := hC
  intro H locs la hP hD hS hl
  have hlt : k < cd_NC := cd_sh_lt (by omega)
  have ha := cd_ws_at (cy := cy) (ad := ad) (M := M) hlt
  rw [cd_cell23 hk] at ha
  show W p l e (cd_room y) s m args below meth c H locs 0 0 _ (F0 m pc la (.int x :: .int j :: cd_em ad fm (.ref k) :: rs.map (cd_em ad fm)))
  rw [cd_em_ref ad fm (cd_ne1200 hlt)]
  refine va_zast hx hb hK hP hD hS k 3 ha rfl hj hd (fun H1 locs1 hP1 hD1 hS1 => ?_)
  have ew := cd_ws_set (cy := cy) (ad := ad) (M := M) (M' := cd_wI M k j.toNatClampNeg (vp_nar .boolean x)) hlt (by rw [cd_cell23 hk, cd_wI_s]) (fun a h => cd_cell_wI_ne h)
  rw [ew] at hP1 hD1
  exact kk H1 locs1 la hP1 hD1 hS1 hl
theorem cd_s_alen (hC : cd_Cx p s m args meth c y D cy ad fm A) {pc : Nat} {ls : List (Option Value)} {rs : List Value} {M : cd_M} {r : Option Value × cd_M} {k : Nat} (hk : 20 ≤ (cd_sh k).1 ∧ (cd_sh k).1 ≤ 23) (hd : decode (cd_code y).1 pc = .ok (.arraylength, 1)) (kk : cd_OK p l e s m args below meth c y D cy ad fm A (pc + 1) ls (.int (Int32.ofNat (cd_sh k).2) :: rs) M r) : cd_OK p l e s m args below meth c y D cy ad fm A pc ls (.ref k :: rs) M r := by
  obtain ⟨hx, hb, hr, hml, hown, hts, hlk, hK, hSt, hA, hy⟩ := hC
  intro H locs la hP hD hS hl
  have hlt : k < cd_NC := cd_sh_lt (by omega)
  have ha := cd_ws_at (cy := cy) (ad := ad) (M := M) hlt
  show W p l e (cd_room y) s m args below meth c H locs 0 0 _ (F0 m pc la (cd_em ad fm (.ref k) :: rs.map (cd_em ad fm)))
  rw [cd_em_ref ad fm (cd_ne1200 hlt)]
  rcases (show (cd_sh k).1 = 20 ∨ (cd_sh k).1 = 21 ∨ (cd_sh k).1 = 22 ∨ (cd_sh k).1 = 23 by omega) with h | h | h | h
  · rw [cd_cell20 h] at ha
    exact va_alen hx hb hK hP k 0 ha rfl rfl hd (kk H locs la hP hD hS hl)
  · rw [cd_cell21 h] at ha
    exact va_alen hx hb hK hP k 1 ha rfl rfl hd (kk H locs la hP hD hS hl)
  · rw [cd_cell22 h] at ha
    exact va_alen hx hb hK hP k 2 ha rfl rfl hd (kk H locs la hP hD hS hl)
  · rw [cd_cell23 h] at ha
    exact va_alen hx hb hK hP k 3 ha rfl rfl hd (kk H locs la hP hD hS hl)
theorem cd_s_salen (hC : cd_Cx p s m args meth c y D cy ad fm A) {pc : Nat} {ls : List (Option Value)} {rs : List Value} {M : cd_M} {r : Option Value × cd_M} {k : Nat} (hk : 1100 ≤ k ∧ k < 1113) (hd : decode (cd_code y).1 pc = .ok (.arraylength, 1)) (kk : cd_OK p l e s m args below meth c y D cy ad fm A (pc + 1) ls (.int (Int32.ofNat (cd_sl.getD (k - 1100) 0)) :: rs) M r) : cd_OK p l e s m args below meth c y D cy ad fm A pc ls (.ref k :: rs) M r := by
  obtain ⟨hx, hb, hr, hml, hown, hts, hlk, hK, hSt, hA, hy⟩ := hC
  intro H locs la hP hD hS hl
  obtain ⟨hfm, hnw, hks, hvr, hz1, hz2⟩ := hSt
  have h1 := (hks.1 (k - 1100) (by omega)).2.2.2
  dsimp only at h1
  rw [show 1100 + (k - 1100) = k by omega] at h1
  show W p l e (cd_room y) s m args below meth c H locs 0 0 _ (F0 m pc la (cd_em ad fm (.ref k) :: rs.map (cd_em ad fm)))
  rw [cd_em_ref ad fm (by omega)]
  exact va_tlen hx hb h1 hS rfl hd (kk H locs la hP hD hS hl)
theorem cd_s_sbald (hC : cd_Cx p s m args meth c y D cy ad fm A) {pc : Nat} {ls : List (Option Value)} {rs : List Value} {M : cd_M} {r : Option Value × cd_M} {k : Nat} {j : Int32} (hk : 1100 ≤ k ∧ k < 1113) (hj : vp_in j (cd_sl.getD (k - 1100) 0)) (hd : decode (cd_code y).1 pc = .ok (.baload, 1)) (kk : cd_OK p l e s m args below meth c y D cy ad fm A (pc + 1) ls (.int (cd_sbyte k j) :: rs) M r) : cd_OK p l e s m args below meth c y D cy ad fm A pc ls (.int j :: .ref k :: rs) M r := by
  obtain ⟨hx, hb, hr, hml, hown, hts, hlk, hK, hSt, hA, hy⟩ := hC
  intro H locs la hP hD hS hl
  obtain ⟨hfm, hnw, hks, hvr, hz1, hz2⟩ := hSt
  have h1 := (hks.1 (k - 1100) (by omega)).2.2.2
  dsimp only at h1
  rw [show 1100 + (k - 1100) = k by omega] at h1
  show W p l e (cd_room y) s m args below meth c H locs 0 0 _ (F0 m pc la (.int j :: cd_em ad fm (.ref k) :: rs.map (cd_em ad fm)))
  rw [cd_em_ref ad fm (by omega)]
  exact va_tb hx hb h1 hS hj rfl hd (kk H locs la hP hD hS hl)
end cdW
