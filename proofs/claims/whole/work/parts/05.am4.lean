/-! the words that a call needs -/
def am_isN (w : Cond) : Bool := match w with
  | .fieldLinkNest .. => true
  | .methodLinkNest .. => true
  | .declares _ => true
  | .castable .. => true
  | .arrayOver (.object _) => true
  | _ => false
theorem am_N_warm {w : Cond} (h : am_isN w = true) {s U : State} (hW : s.WarmedH U.vm) (hz : va_Nw w s) : va_Nw w U := by
  cases w with
  | fieldLinkNest => exact va_Nw.warmF hW hz
  | methodLinkNest => exact va_Nw.warmM hW hz
  | declares => exact va_Nw.warmD hW hz
  | castable => exact va_Nw.warmC hW hz
  | arrayOver ty =>
    cases ty with
    | object C => exact va_AO.moved (C := C) hW.alike hz
    | _ => cases h
  | _ => cases h
theorem am_N_same {w : Cond} (h : am_isN w = true) {u U : State} (hv : u.vm = U.vm) (hz : va_Nw w u) : va_Nw w U := by
  cases w with
  | fieldLinkNest => exact va_Nw.same rfl hv hz
  | methodLinkNest => exact va_Nw.same rfl hv hz
  | declares => exact va_Nw.same rfl hv hz
  | castable => exact va_Nw.same rfl hv hz
  | arrayOver ty =>
    cases ty with
    | object C => exact va_AO.moved (C := C) (u := u) (by rw [hv]; exact Vm.Alike.refl _) hz
    | _ => cases h
  | _ => cases h
/-- the claim's words may be handed on -/
def am_good (P : am_P) : Prop := (∀ w ∈ P.2.2.1, (w.onTables && w.keeps) = true ∨ ∃ ty, w = Cond.arrayClass ty) ∧ ∀ w ∈ P.2.2.2, am_isN w = true
/-- what the callee's own words are -/
def am_cok (P : am_P) (own : String) (idx ci : Nat) (M : am_M) (kd n : Nat) : Prop :=
  match kd with
  | 7 => n = 0 ∧ Cond.methodLink own idx Lib.objectInit ∈ P.2.2.1 ∧ Cond.instanceMethod Lib.objectInit ∈ P.2.2.1 ∧ Cond.code Lib.objectInit ⟨#[0xb1]⟩ 1 none ∈ P.2.2.1
  | kd => (Cond.code M.1 M.2.1 M.2.2.1 M.2.2.2 ∈ P.2.2.1 ∧ Cond.initialized M.1.cls ∈ P.2.2.1 ∧ M.1.cls ≠ "java/lang/invoke/MethodHandle" ∧ M.1.cls ≠ "java/lang/invoke/VarHandle" ∧ (parseMethodDescriptor M.1.desc).map (fun d => d.parameters.length) = some n) ∧
    match kd with
    | 0 => Cond.methodLink own idx M.1 ∈ P.2.2.1 ∧ Cond.static M.1 ∈ P.2.2.1
    | 1 => (∃ host, Cond.methodLinkNest own idx M.1 host ∈ P.2.2.2) ∧ Cond.static M.1 ∈ P.2.2.1
    | 2 => ∃ C T N, P.1[ci]? = some (C, T, N) ∧ Cond.methodLink own idx M.1 ∈ P.2.2.1 ∧ Cond.instanceMethod M.1 ∈ P.2.2.1 ∧ Cond.selects C M.1 M.1 ∈ P.2.2.1
    | 3 => ∃ C T N host, P.1[ci]? = some (C, T, N) ∧ Cond.methodLinkNest own idx M.1 host ∈ P.2.2.2 ∧ Cond.instanceMethod M.1 ∈ P.2.2.1 ∧ Cond.selects C M.1 M.1 ∈ P.2.2.1
    | 4 => M.2.2.2 = none ∧ Cond.methodLink own idx M.1 ∈ P.2.2.1 ∧ M.1.name = "<init>" ∧ Cond.instanceMethod M.1 ∈ P.2.2.1
    | 5 => M.2.2.2 = none ∧ ∃ host, Cond.methodLinkNest own idx M.1 host ∈ P.2.2.2 ∧ M.1.name = "<init>" ∧ Cond.instanceMethod M.1 ∈ P.2.2.1
    | 6 => ∃ C T N x owner, P.1[ci]? = some (C, T, N) ∧ Cond.methodLink own idx x ∈ P.2.2.1 ∧ Cond.sameMethod x.cls owner x.name x.desc ∈ P.2.2.1 ∧ (Cond.declares ⟨owner, x.name, x.desc⟩ ∈ P.2.2.2 ∨ (Cond.instanceMethod ⟨owner, x.name, x.desc⟩ ∈ P.2.2.1 ∧ ∃ b m r, Cond.code ⟨owner, x.name, x.desc⟩ b m r ∈ P.2.2.1)) ∧ Cond.selects C x M.1 ∈ P.2.2.1 ∧ Cond.instanceMethod M.1 ∈ P.2.2.1 ∧ owner ≠ "java/lang/invoke/MethodHandle" ∧ owner ≠ "java/lang/invoke/VarHandle" ∧ (parseMethodDescriptor x.desc).map (fun d => d.parameters.length) = some n
    | _ => False
/-- a new object -/
def am_nok (P : am_P) (own : String) (idx ci : Nat) (fs : List Value) : Prop := ∃ (C : String) (T : u_T) (ty : Nat → FieldType), P.1[ci]? = some (C, T, fs.length) ∧ (∀ w ∈ u_ws C T fs.length, w ∈ P.2.2.1) ∧ (∀ k, k < fs.length → parseFieldDescriptor (T k).2.2.1 = some (ty k)) ∧
  Cond.classLink own idx C ∈ P.2.2.1 ∧ Cond.instantiable C fs.length ∈ P.2.2.1 ∧ Cond.initialized C ∈ P.2.2.1 ∧ ∀ j, j < fs.length → defaultValue (ty j) = vp_V fs j
/-- a method's tables: itself; pc to instruction and target; index and class to field; ints; longs; index and class to callee (kind, number of parameters, its cells, its slots); index to class and first values -/
abbrev am_E : Type := am_M × (Nat → Option (ClassFile.Instr × Nat)) × (Nat → Nat → Option Nat) × (Nat → Option Int32) × (Nat → Option Int64) × (Nat → Nat → Option (am_M × Nat × Nat × Nat × Nat)) × (Nat → Option (Nat × List Value))
def am_ln (i : ClassFile.Instr) : Nat := match i with
  | .bipush _ | .iload _ | .lload _ | .aload _ | .istore _ | .lstore _ | .astore _ | .ldc _ | .newarray _ => 2
  | .sipush _ | .goto _ | .ifCond .. | .if_icmp .. | .if_acmp .. | .ifnull _ | .ifnonnull _ | .iinc .. | .getfield _ | .putfield _ | .getstatic _ | .invokevirtual _ | .invokespecial _ | .invokestatic _ | .new _ | .anewarray _ | .ldc_w _ | .ldc2_w _ | .checkcast _ | .instanceof _ => 3
  | .tableswitch .. | .lookupswitch .. => 0
  | .invokeinterface .. => 5
  | _ => 1
def am_of (i : ClassFile.Instr) : Option Int := match i with
  | .goto o => some o
  | .ifCond _ o => some o
  | .if_icmp _ o => some o
  | .ifnull o => some o
  | .ifnonnull o => some o
  | .if_acmp _ o => some o
  | _ => none
/-- a field by its link: the class's table, the words -/
def am_fok (P : am_P) (own : String) (idx ci k : Nat) : Prop := ∃ (C : String) (T : u_T) (N : Nat) (ref : String) (ty0 : Nat → FieldType), P.1[ci]? = some (C, T, N) ∧ k < N ∧ (∀ w ∈ u_ws C T N, w ∈ P.2.2.1) ∧ (∀ k, k < N → parseFieldDescriptor (T k).2.2.1 = some (ty0 k)) ∧ (∀ a, a < N → ∀ b, b < N → a ≠ b → (T a).2.1 ≠ (T b).2.1) ∧
  (Cond.fieldLink own idx ref (T k).2.1 (T k).2.2.1 ∈ P.2.2.1 ∨ ∃ host, Cond.fieldLinkNest own idx ref (T k).2.1 (T k).2.2.1 host ∈ P.2.2.2 ∧ (T k).1 ≠ own) ∧ (ref = (T k).1 ∨ Cond.sameField ref (T k).1 (T k).2.1 (T k).2.2.1 ∈ P.2.2.1)
/-- the type and the final flag of a field -/
def am_ft (P : am_P) (ci k : Nat) : Option (FieldType × Bool) := match P.1[ci]? with
  | some q => match parseFieldDescriptor (q.2.1 k).2.2.1 with
    | some ty => some (ty, (q.2.1 k).2.2.2)
    | none => none
  | none => none
/-- a value that a field of this type takes as it is -/
def am_fit (ty : FieldType) (v : Value) (K : Prop) : Prop := match ty, v with
  | .int, .int _ => K
  | .long, .long _ => K
  | .boolean, .int x => (x = 0 ∨ x = 1) ∧ K
  | .object _, .ref _ => K
  | .array _, .ref _ => K
  | .object _, .null => K
  | .array _, .null => K
  | _, _ => False
theorem am_bool {x : Int32} (h : x = 0 ∨ x = 1) : narrow .boolean (.int x) = .int x ∧ fits .boolean (.int x) = true := by
  rcases h with rfl | rfl
  · exact ⟨rfl, rfl⟩
  · exact ⟨rfl, rfl⟩
theorem am_fit_e {ty : FieldType} {v : Value} {K : Prop} (h : am_fit ty v K) : narrow ty v = v ∧ fits ty v = true ∧ K := by
  unfold am_fit at h
  split at h
  · exact ⟨rfl, rfl, h⟩
  · exact ⟨rfl, rfl, h⟩
  · exact ⟨(am_bool h.1).1, (am_bool h.1).2, h.2⟩
  · exact ⟨rfl, rfl, h⟩
  · exact ⟨rfl, rfl, h⟩
  · exact ⟨rfl, rfl, h⟩
  · exact ⟨rfl, rfl, h⟩
  · exact False.elim h
def am_ok (P : am_P) (E : am_E) : Prop :=
  (∀ pc i tg, E.2.1 pc = some (i, tg) → (∃ len, decode E.1.2.1 pc = .ok (i, len) ∧ (am_ln i = len ∨ am_ln i = 0)) ∧ ∀ off, am_of i = some off → (pc : Int) + off = (tg : Int)) ∧
  (∀ idx ci k, E.2.2.1 idx ci = some k → am_fok P E.1.1.cls idx ci k) ∧
  (∀ idx v, E.2.2.2.1 idx = some v → Cond.constant E.1.1.cls idx v ∈ P.2.2.1) ∧
  (∀ idx v, E.2.2.2.2.1 idx = some v → Cond.constantLong E.1.1.cls idx v ∈ P.2.2.1) ∧
  (∀ idx ci M kd n mc ms, E.2.2.2.2.2.1 idx ci = some (M, kd, n, mc, ms) → am_cok P E.1.1.cls idx ci M kd n) ∧
  (∀ idx ci fs, E.2.2.2.2.2.2 idx = some (ci, fs) → am_nok P E.1.1.cls idx ci fs)
theorem am_hd {cc : ByteArray} {pc : Nat} {i : ClassFile.Instr} (h : ∃ len, decode cc pc = .ok (i, len) ∧ (am_ln i = len ∨ am_ln i = 0)) (h0 : am_ln i ≠ 0) : decode cc pc = .ok (i, am_ln i) := by
  obtain ⟨len, h1, h2 | h2⟩ := h
  · rw [h1, h2]
  · exact absurd h2 h0
/-- a final field may be written: in a constructor of the class that declares it -/
def am_fin (P : am_P) (y : MethodName) (ci k : Nat) : Prop := y.name = "<init>" ∧ ∀ q, P.1[ci]? = some q → (q.2.1 k).1 = y.cls
/-- a call of a static method -/
def am_cs (P : am_P) (E : am_E) (d : Nat × Nat) (mc ms : Nat) (ps : List Nat) (idx : Nat) (st : List Value) (ws : va_W) (ce sl : Nat) (k : Option Value → List Value → va_W → Nat → Nat → Prop) : Prop :=
  match E.2.2.2.2.2.1 idx 0 with
  | some (M', kd, n, mc', ms') =>
    match Nat.ble kd 1 && (Nat.ble n st.length && ((Nat.ble 1 d.1 && Nat.ble (19 + M'.2.2.1) d.2) && (va_nd ps && Nat.ble ((st.drop n).map fun v => v.category).sum 8))) with
    | true => ce + mc' ≤ mc ∧ sl + ms' ≤ ms ∧ am_C P M' (d.1 - 1, d.2 - (19 + M'.2.2.1)) mc' ms' (am_cut ws ps) (st.take n).reverse (fun r w1 => k r (st.drop n) (am_put ws ps w1) (ce + mc') (sl + ms'))
    | false => False
  | none => False
/-- a call on an object: it stands at the first of the places -/
def am_cv (P : am_P) (E : am_E) (v : Bool) (d : Nat × Nat) (mc ms : Nat) (ps : List Nat) (idx : Nat) (st : List Value) (ws : va_W) (ce sl : Nat) (k : Option Value → List Value → va_W → Nat → Nat → Prop) : Prop :=
  am_wo ws ps (fun _ b' ci _ =>
    match E.2.2.2.2.2.1 idx ci with
    | some (M', kd, n, mc', ms') =>
      match st.drop n with
      | .ref b :: rest =>
        match (Nat.beq kd 7 && !v), (cond v (Nat.beq kd 2 || (Nat.beq kd 3 || Nat.beq kd 6)) (Nat.beq kd 4 || Nat.beq kd 5)) && ((Nat.ble 1 d.1 && Nat.ble (19 + M'.2.2.1) d.2) && (va_nd ps && Nat.ble (rest.map fun v => v.category).sum 8)) with
        | true, _ => n = 0 ∧ 1 ≤ d.1 ∧ 20 ≤ d.2 ∧ (rest.map fun v => v.category).sum ≤ 8 ∧ k none rest ws ce sl
        | false, true => b = b' ∧ ce + mc' ≤ mc ∧ sl + ms' ≤ ms ∧ am_C P M' (d.1 - 1, d.2 - (19 + M'.2.2.1)) mc' ms' (am_cut ws ps) (.ref b :: (st.take n).reverse) (fun r w1 => k r rest (am_put ws ps w1) (ce + mc') (sl + ms'))
        | false, false => False
      | _ => False
    | none => False)
/-- an object of class number ci may stand in a row of objects C -/
def am_sub (P : am_P) (ci : Nat) (C : String) : Prop := (∃ T N, P.1[ci]? = some (C, T, N)) ∨ ∃ C' T N, P.1[ci]? = some (C', T, N) ∧ Cond.castable C' C ∈ P.2.2.2
/-- a table of jumps, from the value v on -/
def am_sw (x v : Int) (l : List Int) (pc : Nat) (d : Int) (k : Nat → Prop) : Prop := match l with
  | [] => 0 ≤ (pc : Int) + d ∧ k ((pc : Int) + d).toNat
  | o :: l => (x = v → 0 ≤ (pc : Int) + o ∧ k ((pc : Int) + o).toNat) ∧ (¬ x = v → am_sw x (v + 1) l pc d k)
theorem am_sw_e {x : Int} {pc : Nat} {d : Int} {k : Nat → Prop} : ∀ (l : List Int) (v : Int), am_sw x v l pc d k →
    (∃ (j : Nat) (o : Int), l[j]? = some o ∧ x = v + j ∧ 0 ≤ (pc : Int) + o ∧ k ((pc : Int) + o).toNat) ∨ ((x < v ∨ v + l.length ≤ x) ∧ 0 ≤ (pc : Int) + d ∧ k ((pc : Int) + d).toNat)
  | [], v, h => Or.inr ⟨by simp only [List.length_nil]; omega, h⟩
  | o :: l, v, h => by
    by_cases hx : x = v
    · exact Or.inl ⟨0, o, rfl, by omega, h.1 hx⟩
    · rcases am_sw_e l (v + 1) (h.2 hx) with ⟨j, o', h1, h2, h3⟩ | ⟨h1, h2⟩
      · exact Or.inl ⟨j + 1, o', h1, by omega, h3⟩
      · refine Or.inr ⟨?_, h2⟩
        rw [List.length_cons]
        omega
/-- two ways -/
def am_if (c A B : Prop) : Prop := (c → A) ∧ (¬ c → B)
def am_st (P : am_P) (o : am_O) (E : am_E) (d : Nat × Nat) (mc ms : Nat) (hint : Nat → List Nat) (Q : Option Value → va_W → Prop) (k : am_S → Prop) (σ : am_S) : Prop :=
  match σ with
  | (pc, lv, st, ws, ce, sl) =>
    match E.2.1 pc with
    | none => False
    | some (ins, tg) =>
      match ins with
      | .iconst v => k (pc + 1, lv, .int (Int32.ofInt v) :: st, ws, ce, sl)
      | .bipush v => k (pc + 2, lv, .int (Int8.ofInt v).toInt32 :: st, ws, ce, sl)
      | .sipush v => k (pc + 3, lv, .int (Int16.ofInt v).toInt32 :: st, ws, ce, sl)
      | .lconst v => k (pc + 1, lv, .long (Int64.ofNat (v : Nat)) :: st, ws, ce, sl)
      | .ldc idx => match E.2.2.2.1 idx with
        | some v => k (pc + 2, lv, .int v :: st, ws, ce, sl)
        | none => False
      | .ldc_w idx => match E.2.2.2.1 idx with
        | some v => k (pc + 3, lv, .int v :: st, ws, ce, sl)
        | none => False
      | .ldc2_w idx => match E.2.2.2.2.1 idx with
        | some v => k (pc + 3, lv, .long v :: st, ws, ce, sl)
        | none => False
      | .iload_n n => am_lv lv n (fun v => am_vi v (fun x => k (pc + 1, lv, .int x :: st, ws, ce, sl)))
      | .iload n => am_lv lv n (fun v => am_vi v (fun x => k (pc + 2, lv, .int x :: st, ws, ce, sl)))
      | .lload_n n => am_lv lv n (fun v => am_vl v (fun x => k (pc + 1, lv, .long x :: st, ws, ce, sl)))
      | .lload n => am_lv lv n (fun v => am_vl v (fun x => k (pc + 2, lv, .long x :: st, ws, ce, sl)))
      | .aload_n n => am_lv lv n (fun v => am_va v (fun x => k (pc + 1, lv, .ref x :: st, ws, ce, sl)))
      | .aload n => am_lv lv n (fun v => am_va v (fun x => k (pc + 2, lv, .ref x :: st, ws, ce, sl)))
      | .istore_n n => am_i1 st (fun x r => (n : Nat) < lv.length ∧ k (pc + 1, am_s1 lv n (.int x), r, ws, ce, sl))
      | .istore n => am_i1 st (fun x r => n < lv.length ∧ k (pc + 2, am_s1 lv n (.int x), r, ws, ce, sl))
      | .lstore_n n => am_l1 st (fun x r => (n : Nat) + 1 < lv.length ∧ k (pc + 1, am_s2 lv n (.long x), r, ws, ce, sl))
      | .lstore n => am_l1 st (fun x r => n + 1 < lv.length ∧ k (pc + 2, am_s2 lv n (.long x), r, ws, ce, sl))
      | .astore_n n => am_r1 st (fun x r => (n : Nat) < lv.length ∧ k (pc + 1, am_s1 lv n (.ref x), r, ws, ce, sl))
      | .astore n => am_r1 st (fun x r => n < lv.length ∧ k (pc + 2, am_s1 lv n (.ref x), r, ws, ce, sl))
      | .iinc n c => am_lv lv n (fun v => am_vi v (fun x => n < lv.length ∧ k (pc + 3, am_s1 lv n (.int (x + Int32.ofInt c)), st, ws, ce, sl)))
      | .iadd => am_i2 st (fun x y r => k (pc + 1, lv, .int (x + y) :: r, ws, ce, sl))
      | .isub => am_i2 st (fun x y r => k (pc + 1, lv, .int (x - y) :: r, ws, ce, sl))
      | .imul => am_i2 st (fun x y r => k (pc + 1, lv, .int (x * y) :: r, ws, ce, sl))
      | .iand => am_i2 st (fun x y r => k (pc + 1, lv, .int (x &&& y) :: r, ws, ce, sl))
      | .ior => am_i2 st (fun x y r => k (pc + 1, lv, .int (x ||| y) :: r, ws, ce, sl))
      | .ixor => am_i2 st (fun x y r => k (pc + 1, lv, .int (x ^^^ y) :: r, ws, ce, sl))
      | .idiv => am_i2 st (fun x y r => ¬ y = 0 ∧ k (pc + 1, lv, .int (x / y) :: r, ws, ce, sl))
      | .irem => am_i2 st (fun x y r => ¬ y = 0 ∧ k (pc + 1, lv, .int (x - x / y * y) :: r, ws, ce, sl))
      | .ineg => am_i1 st (fun x r => k (pc + 1, lv, .int (-x) :: r, ws, ce, sl))
      | .ishl => am_i2 st (fun x y r => k (pc + 1, lv, .int (x <<< (y &&& 31)) :: r, ws, ce, sl))
      | .ishr => am_i2 st (fun x y r => k (pc + 1, lv, .int (x >>> (y &&& 31)) :: r, ws, ce, sl))
      | .iushr => am_i2 st (fun x y r => k (pc + 1, lv, .int (x.toUInt32 >>> (y.toUInt32 &&& Int32.toUInt32 31)).toInt32 :: r, ws, ce, sl))
      | .ladd => am_l2 st (fun x y r => k (pc + 1, lv, .long (x + y) :: r, ws, ce, sl))
      | .lsub => am_l2 st (fun x y r => k (pc + 1, lv, .long (x - y) :: r, ws, ce, sl))
      | .land => am_l2 st (fun x y r => k (pc + 1, lv, .long (x &&& y) :: r, ws, ce, sl))
      | .lor => am_l2 st (fun x y r => k (pc + 1, lv, .long (x ||| y) :: r, ws, ce, sl))
      | .lxor => am_l2 st (fun x y r => k (pc + 1, lv, .long (x ^^^ y) :: r, ws, ce, sl))
      | .lshl => am_il st (fun x y r => k (pc + 1, lv, .long (x <<< (y.toInt64 &&& 63)) :: r, ws, ce, sl))
      | .lushr => am_il st (fun x y r => k (pc + 1, lv, .long (x.toUInt64 >>> (y.toInt64.toUInt64 &&& Int64.toUInt64 63)).toInt64 :: r, ws, ce, sl))
      | .lcmp => am_l2 st (fun x y r => k (pc + 1, lv, .int (lg_cmp x y) :: r, ws, ce, sl))
      | .i2l => am_i1 st (fun x r => k (pc + 1, lv, .long x.toInt64 :: r, ws, ce, sl))
      | .l2i => am_l1 st (fun x r => k (pc + 1, lv, .int x.toInt32 :: r, ws, ce, sl))
      | .lshr => am_il st (fun x y r => k (pc + 1, lv, .long (x >>> (y.toInt64 &&& 63)) :: r, ws, ce, sl))
      | .i2b => am_i1 st (fun x r => k (pc + 1, lv, .int x.toInt8.toInt32 :: r, ws, ce, sl))
      | .dup => am_v1 st (fun v r => k (pc + 1, lv, v :: v :: r, ws, ce, sl))
      | .pop => am_v1 st (fun _ r => k (pc + 1, lv, r, ws, ce, sl))
      | .dup_x1 => am_v1 st (fun v r => am_v1 r (fun u r => k (pc + 1, lv, v :: u :: v :: r, ws, ce, sl)))
      | .dup_x2 => am_v1 st (fun v r => am_v1 r (fun u r => am_v1 r (fun t r => k (pc + 1, lv, v :: u :: t :: v :: r, ws, ce, sl))))
      | .dup2 => am_v1 st (fun v r => am_v1 r (fun u r => k (pc + 1, lv, v :: u :: v :: u :: r, ws, ce, sl)))
      | .goto _ => k (tg, lv, st, ws, ce, sl)
      | .ifCond .eq _ => am_i1 st (fun x r => am_if (x = 0) (k (tg, lv, r, ws, ce, sl)) (k (pc + 3, lv, r, ws, ce, sl)))
      | .ifCond .ne _ => am_i1 st (fun x r => am_if (x = 0) (k (pc + 3, lv, r, ws, ce, sl)) (k (tg, lv, r, ws, ce, sl)))
      | .ifCond .lt _ => am_i1 st (fun x r => am_if (x < 0) (k (tg, lv, r, ws, ce, sl)) (k (pc + 3, lv, r, ws, ce, sl)))
      | .ifCond .ge _ => am_i1 st (fun x r => am_if (0 ≤ x) (k (tg, lv, r, ws, ce, sl)) (k (pc + 3, lv, r, ws, ce, sl)))
      | .ifCond .gt _ => am_i1 st (fun x r => am_if (0 < x) (k (tg, lv, r, ws, ce, sl)) (k (pc + 3, lv, r, ws, ce, sl)))
      | .ifCond .le _ => am_i1 st (fun x r => am_if (x ≤ 0) (k (tg, lv, r, ws, ce, sl)) (k (pc + 3, lv, r, ws, ce, sl)))
      | .if_icmp .eq _ => am_i2 st (fun x y r => am_if (x = y) (k (tg, lv, r, ws, ce, sl)) (k (pc + 3, lv, r, ws, ce, sl)))
      | .if_icmp .ne _ => am_i2 st (fun x y r => am_if (x = y) (k (pc + 3, lv, r, ws, ce, sl)) (k (tg, lv, r, ws, ce, sl)))
      | .if_icmp .lt _ => am_i2 st (fun x y r => am_if (x < y) (k (tg, lv, r, ws, ce, sl)) (k (pc + 3, lv, r, ws, ce, sl)))
      | .if_icmp .ge _ => am_i2 st (fun x y r => am_if (y ≤ x) (k (tg, lv, r, ws, ce, sl)) (k (pc + 3, lv, r, ws, ce, sl)))
      | .if_icmp .gt _ => am_i2 st (fun x y r => am_if (y < x) (k (tg, lv, r, ws, ce, sl)) (k (pc + 3, lv, r, ws, ce, sl)))
      | .if_icmp .le _ => am_i2 st (fun x y r => am_if (x ≤ y) (k (tg, lv, r, ws, ce, sl)) (k (pc + 3, lv, r, ws, ce, sl)))
      | .getfield idx => am_r1 st (fun a r => am_wo ws (hint pc) (fun _ a' ci fs => a = a' ∧ match E.2.2.1 idx ci with
        | some f => match fs[f]? with
          | some v => k (pc + 3, lv, v :: r, ws, ce, sl)
          | none => False
        | none => False))
      | .putfield idx => am_vr st (fun v a r => am_wo ws (hint pc) (fun q a' ci fs => a = a' ∧ match E.2.2.1 idx ci with
        | some f => f < fs.length ∧ match am_ft P ci f with
          | some (ty, false) => am_fit ty v (k (pc + 3, lv, r, ws.set q (a', .inr (ci, fs.set f v)), ce, sl))
          | some (ty, true) => am_fin P E.1.1 ci f ∧ am_fit ty v (k (pc + 3, lv, r, ws.set q (a', .inr (ci, fs.set f v)), ce, sl))
          | none => False
        | none => False))
      | .iaload => am_ir st (fun i a r => match hint pc with
        | [] => a = o.1 ∧ vp_in i o.2.1 ∧ k (pc + 1, lv, .int (o.2.2 i.toNatClampNeg) :: r, ws, ce, sl)
        | qs => am_wi 0 ws qs (fun _ a' n g => a = a' ∧ vp_in i n ∧ k (pc + 1, lv, .int (g i.toNatClampNeg) :: r, ws, ce, sl)))
      | .iastore => am_iir st (fun x i a r => am_wi 0 ws (hint pc) (fun q a' n g => a = a' ∧ vp_in i n ∧ k (pc + 1, lv, r, ws.set q (a', .inl (0, n, .inl (upd g i.toNatClampNeg x))), ce, sl)))
      | .laload => am_ir st (fun i a r => am_wl ws (hint pc) (fun _ a' n g => a = a' ∧ vp_in i n ∧ k (pc + 1, lv, .long (g i.toNatClampNeg) :: r, ws, ce, sl)))
      | .lastore => am_lir st (fun x i a r => am_wl ws (hint pc) (fun q a' n g => a = a' ∧ vp_in i n ∧ k (pc + 1, lv, r, ws.set q (a', .inl (3, n, .inr (.inl (vp_updL g i.toNatClampNeg x)))), ce, sl)))
      | .aaload => am_ir st (fun i a r => am_wr P.2.1 ws (hint pc) (fun _ a' _ n _ g => a = a' ∧ vp_in i n ∧ ∃ b, g i.toNatClampNeg = some b ∧ k (pc + 1, lv, .ref b :: r, ws, ce, sl)))
      | .baload => am_ir st (fun i a r => am_wi 2 ws (hint pc) (fun _ a' n g => a = a' ∧ vp_in i n ∧ k (pc + 1, lv, .int (g i.toNatClampNeg) :: r, ws, ce, sl)))
      | .bastore => am_iir st (fun x i a r => am_wi 2 ws (hint pc) (fun q a' n g => a = a' ∧ vp_in i n ∧ k (pc + 1, lv, r, ws.set q (a', .inl (2, n, .inl (upd g i.toNatClampNeg (vp_nar .boolean x)))), ce, sl)))
      | .aastore => am_rir st (fun x i a r => match hint pc with
        | [q0, q1] => am_wr P.2.1 ws [q0] (fun q a' t n C g => a = a' ∧ vp_in i n ∧ am_wo ws [q1] (fun _ x' ci _ => x = x' ∧ am_sub P ci C ∧ k (pc + 1, lv, r, ws.set q (a', .inl (t, n, .inr (.inr (.inr (.inr (va_up g i.toNatClampNeg (some x'))))))), ce, sl)))
        | _ => False)
      | .tableswitch dflt lo hi offs => am_i1 st (fun x r => hi + 1 = lo + offs.toList.length ∧ am_sw x.toInt lo offs.toList pc dflt (fun t => k (t, lv, r, ws, ce, sl)))
      | .arraylength => am_r1 st (fun a r => match hint pc with
        | [] => a = o.1 ∧ ¬ o.2.1 = 0 ∧ k (pc + 1, lv, .int (Int32.ofNat o.2.1) :: r, ws, ce, sl)
        | qs => am_wa P.2.1 ws qs (fun _ a' _ x _ => a = a' ∧ k (pc + 1, lv, .int (Int32.ofNat x.1) :: r, ws, ce, sl)))
      | .ireturn => match Nat.ble ce mc && Nat.ble sl ms, st, E.1.2.2.2 with
        | true, [.int x], some .int => Q (some (.int x)) ws
        | true, [.int x], some .boolean => (x = 0 ∨ x = 1) ∧ Q (some (.int x)) ws
        | _, _, _ => False
      | .lreturn => match Nat.ble ce mc && Nat.ble sl ms, st, E.1.2.2.2 with
        | true, [.long x], some .long => Q (some (.long x)) ws
        | _, _, _ => False
      | .return_ => match Nat.ble ce mc && Nat.ble sl ms, st, E.1.2.2.2 with
        | true, [], none => Q none ws
        | _, _, _ => False
      | .invokestatic idx => am_cs P E d mc ms (hint pc) idx st ws ce sl (fun r rest ws ce sl => k (pc + 3, lv, r.toList ++ rest, ws, ce, sl))
      | .invokevirtual idx => am_cv P E true d mc ms (hint pc) idx st ws ce sl (fun r rest ws ce sl => k (pc + 3, lv, r.toList ++ rest, ws, ce, sl))
      | .invokespecial idx => am_cv P E false d mc ms (hint pc) idx st ws ce sl (fun r rest ws ce sl => k (pc + 3, lv, r.toList ++ rest, ws, ce, sl))
      | .new idx => match E.2.2.2.2.2.2 idx with
        | some (ci, fs) => ce + 1 ≤ mc ∧ sl + fs.length ≤ ms ∧ ∀ q, k (pc + 3, lv, .ref q :: st, ws ++ [(q, .inr (ci, fs))], ce + 1, sl + fs.length)
        | none => False
      | .newarray .int => am_i1 st (fun x r => match hint pc with
        | [n] => ¬ x < 0 ∧ x.toNatClampNeg = n ∧ n ≤ 100000 ∧ ce + 1 ≤ mc ∧ sl + n ≤ ms ∧ Cond.arrayClass .int ∈ P.2.2.1 ∧ ∀ q, k (pc + 2, lv, .ref q :: r, ws ++ [(q, .inl (0, n, .inl (fun _ => 0)))], ce + 1, sl + n)
        | _ => False)
      | .newarray .boolean => am_i1 st (fun x r => match hint pc with
        | [n] => ¬ x < 0 ∧ x.toNatClampNeg = n ∧ n ≤ 100000 ∧ ce + 1 ≤ mc ∧ sl + n ≤ ms ∧ Cond.arrayClass .boolean ∈ P.2.2.1 ∧ ∀ q, k (pc + 2, lv, .ref q :: r, ws ++ [(q, .inl (2, n, .inl (fun _ => 0)))], ce + 1, sl + n)
        | _ => False)
      | .anewarray idx => am_i1 st (fun x r => match hint pc with
        | [n, t] => ¬ x < 0 ∧ x.toNatClampNeg = n ∧ n ≤ 100000 ∧ ce + 1 ≤ mc ∧ sl + n ≤ ms ∧ (∃ C, P.2.1[t]? = some (.object C) ∧ Cond.classLink E.1.1.cls idx C ∈ P.2.2.1 ∧ Cond.arrayOver (.object C) ∈ P.2.2.2) ∧ ∀ q, k (pc + 3, lv, .ref q :: r, ws ++ [(q, .inl (t, n, .inr (.inr (.inr (.inr (fun _ => none))))))], ce + 1, sl + n)
        | _ => False)
      | .newarray .long => am_i1 st (fun x r => match hint pc with
        | [n] => ¬ x < 0 ∧ x.toNatClampNeg = n ∧ n ≤ 100000 ∧ ce + 1 ≤ mc ∧ sl + n ≤ ms ∧ Cond.arrayClass .long ∈ P.2.2.1 ∧ ∀ q, k (pc + 2, lv, .ref q :: r, ws ++ [(q, .inl (3, n, .inr (.inl (fun _ => 0))))], ce + 1, sl + n)
        | _ => False)
      | _ => False
