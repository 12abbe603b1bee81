/-- what is fixed for the whole claim: classes, kinds of arrays by code (0 int, 1 byte, 2 boolean, 3 long), words, words of nest mates -/
abbrev am_P : Type := List vw_C × List FieldType × List Cond × List Cond
abbrev am_O : Type := Nat × Nat × (Nat → Int32)
def am_X (P : am_P) (o : am_O) (M : am_M) (d : Nat × Nat) (mc ms : Nat) (p : Program) (R : Room) (s : State) (m : MethodId) (args : Array Value) (meth : Method) (c : Code) (D : va_G) (dA : Nat → ClassId) (A : Nat → Prop) : Prop :=
  p.tables.exec = Jvm.exec ∧ c.code = M.2.1 ∧ meth.sig.returnType = M.2.2.2 ∧ (∀ w ∈ P.2.2.1, w.before args s = true) ∧ (∀ w ∈ P.2.2.2, va_Nw w s) ∧ s.vm.findClass M.1.cls = some m.cls ∧ meth.locks = false ∧ c.maxLocals = M.2.2.1 ∧ meth.name = M.1.name ∧
  va_K D P.1 (am_tys P.2.1 dA) s ∧ (∀ q, s.heap.size ≤ q → A q) ∧ d.1 ≤ R.frames ∧ d.2 ≤ R.locals ∧ mc ≤ R.cells ∧ ms ≤ R.slots ∧ (o.2.1 = 0 ∨ (va_X o.1 o.2.1 o.2.2 s s.heap ∧ o.1 < s.heap.size ∧ ¬ A o.1))
def am_Qc (P : am_P) (D : va_G) (dA : Nat → ClassId) (A : Nat → Prop) (K : Option Value → va_W → Prop) : Array Value → State → Outcome → State → Prop := fun _ st oc t =>
  (∃ (r : Option Value) (ws : va_W), oc = .returned r ∧ K r ws ∧ va_P D P.1 (am_re dA ws) t.heap ∧ va_D A (am_re dA ws)) ∧ va_F A st t
/-- from this state the method comes to its end with K -/
def am_G (P : am_P) (o : am_O) (M : am_M) (d : Nat × Nat) (mc ms : Nat) (K : Option Value → va_W → Prop) (σ : am_S) : Prop :=
  ∀ (p : Program) (l : Launch) (e : Env) (R : Room) (s : State) (m : MethodId) (args : Array Value) (below : List Frame) (meth : Method) (c : Code) (D : va_G) (dA : Nat → ClassId) (A : Nat → Prop) (H : Heap) (locs : List Loc) (ls : Array Slot),
    am_X P o M d mc ms p R s m args meth c D dA A → am_L ls σ.2.1 → σ.2.1.length = M.2.2.1 → va_P D P.1 (am_re dA σ.2.2.2.1) H → va_D A (am_re dA σ.2.2.2.1) → va_S A s.heap H locs →
    W p l e R s m args below meth c H locs σ.2.2.2.2.1 σ.2.2.2.2.2 (MQ below (am_Qc P D dA A K) args s mc ms A) (F0 m σ.1 ls σ.2.2.1)
/-- a call of the method in this world comes back with K -/
def am_C (P : am_P) (M : am_M) (d : Nat × Nat) (mc ms : Nat) (ws : va_W) (as : List Value) (K : Option Value → va_W → Prop) : Prop :=
  ∀ (l : Launch) (D : va_G) (dA : Nat → ClassId) (sz fr lo : Nat), d.1 ≤ fr → d.2 ≤ lo →
    Met l M.1 (Cond.code M.1 M.2.1 M.2.2.1 M.2.2.2 :: P.2.2.1) ({ frames := fr, cells := mc, slots := ms, locals := lo } : Room)
      (va_Pc as (fun U => U.heap.size = sz ∧ va_P D P.1 (am_re dA ws) U.heap ∧ va_K D P.1 (am_tys P.2.1 dA) U ∧ va_D (fun _ => True) (am_re dA ws) ∧ ∀ w ∈ P.2.2.2, va_Nw w U))
      (am_Qc P D dA (va_A (am_re dA ws) sz) K) mc ms (va_A (am_re dA ws) sz)
theorem am_C.mono {P : am_P} {M : am_M} {d d' : Nat × Nat} {mc ms : Nat} {ws : va_W} {as : List Value} {K : Option Value → va_W → Prop} (h : am_C P M d mc ms ws as K) (hd : d.1 ≤ d'.1) (hw : d.2 ≤ d'.2) : am_C P M d' mc ms ws as K :=
  fun l D dA sz fr lo h1 h2 => h l D dA sz fr lo (Nat.le_trans hd h1) (Nat.le_trans hw h2)
theorem am_ent_len {vs : List Value} {n : Nat} (h : (am_en vs).length ≤ n) : (am_ent vs n).length = n := by
  unfold am_ent
  rw [List.length_append, List.length_replicate]
  omega
/-- a contract out of a walk from the entry -/
theorem am_C_of {P : am_P} {M : am_M} {d : Nat × Nat} {mc ms : Nat} {ws : va_W} {as : List Value} {K : Option Value → va_W → Prop} (hy : plainName M.1.cls = true) (hlen : (am_en as).length ≤ M.2.2.1) (o : am_O) (ho : o.2.1 = 0)
    (h : am_G P o M d mc ms K (0, am_ent as M.2.2.1, [], ws, 0, 0)) : am_C P M d mc ms ws as K := by
  intro l D dA sz fr lo h1 h2
  refine Met.ofW (cc := M.2.1) (maxL := M.2.2.1) (ret := M.2.2.2) hy rfl ?_
  intro p e s m args below meth c s₁ B hml hv
  obtain ⟨rfl, hsz, hP, hK, hD0, hN⟩ := hv
  have hts := atoms_spec (ws := Cond.code M.1 M.2.1 M.2.2.1 M.2.2.2 :: P.2.2.1) B.pre
  subst hsz
  have hD := hD0.self (sz := s.heap.size)
  rw [lg_entry_eq]
  exact h p l e _ s m _ below meth c D dA _ s.heap [] _ ⟨B.exec, B.bytes, B.returns, fun w hw => hts w (List.mem_cons_of_mem _ hw), hN, findClass_of_methodNamed B.named, B.notSynchronized, hml, (name_of_methodNamed B.named B.method).1, hK, fun q h => Or.inr h, h1, h2, Nat.le_refl _, Nat.le_refl _, Or.inl ho⟩ (am_ent_ok hlen) (am_ent_len hlen) hP hD va_S.rf
/-- fewer locals known -/
def am_le : List (Option Value) → List (Option Value) → Prop
  | [], [] => True
  | none :: a, _ :: b => am_le a b
  | some v :: a, x :: b => x = some v ∧ am_le a b
  | _, _ => False
theorem am_le_len : ∀ {a b : List (Option Value)}, am_le a b → a.length = b.length
  | [], [], _ => rfl
  | [], _ :: _, h => False.elim h
  | none :: a, [], h => False.elim h
  | some _ :: a, [], h => False.elim h
  | none :: a, _ :: b, h => by rw [List.length_cons, List.length_cons, am_le_len (a := a) (b := b) h]
  | some _ :: a, _ :: b, h => by rw [List.length_cons, List.length_cons, am_le_len (a := a) (b := b) h.2]
theorem am_le_at : ∀ {a b : List (Option Value)}, am_le a b → ∀ (j : Nat) (v : Value), a[j]? = some (some v) → b[j]? = some (some v)
  | [], [], _, j, v, h => by simp at h
  | [], _ :: _, h, _, _, _ => False.elim h
  | none :: a, [], h, _, _, _ => False.elim h
  | some _ :: a, [], h, _, _, _ => False.elim h
  | none :: a, x :: b, h, j, v, hj => by
    cases j with
    | zero => cases hj
    | succ j =>
      rw [List.getElem?_cons_succ] at hj ⊢
      exact am_le_at (a := a) (b := b) h j v hj
  | some w :: a, x :: b, h, j, v, hj => by
    cases j with
    | zero =>
      rw [List.getElem?_cons_zero] at hj ⊢
      rw [h.1]
      exact hj
    | succ j =>
      rw [List.getElem?_cons_succ] at hj ⊢
      exact am_le_at (a := a) (b := b) h.2 j v hj
theorem am_G.wk {P : am_P} {o : am_O} {M : am_M} {d : Nat × Nat} {mc ms : Nat} {K : Option Value → va_W → Prop} {pc ce sl : Nat} {lv lv' : List (Option Value)} {st : List Value} {ws : va_W} (hl : am_le lv' lv) (h : am_G P o M d mc ms K (pc, lv', st, ws, ce, sl)) : am_G P o M d mc ms K (pc, lv, st, ws, ce, sl) := by
  intro p l e R s m args below meth c D dA A H locs ls X hL hn hP hD hS
  have e1 := am_le_len hl
  exact h p l e R s m args below meth c D dA A H locs ls X ⟨hL.1.trans e1.symm, hL.2.1, fun j v hj => hL.2.2 j v (am_le_at hl j v hj)⟩ (e1.trans hn) hP hD hS
/-! what stands on the stack, in the locals, in the world -/
def am_i1 (st : List Value) (f : Int32 → List Value → Prop) : Prop := match st with
  | .int x :: r => f x r
  | _ => False
theorem am_i1_e {st : List Value} {f : Int32 → List Value → Prop} (h : am_i1 st f) : ∃ x r, st = .int x :: r ∧ f x r := by
  unfold am_i1 at h
  split at h
  · exact ⟨_, _, rfl, h⟩
  · exact False.elim h
def am_i2 (st : List Value) (f : Int32 → Int32 → List Value → Prop) : Prop := match st with
  | .int y :: .int x :: r => f x y r
  | _ => False
theorem am_i2_e {st : List Value} {f : Int32 → Int32 → List Value → Prop} (h : am_i2 st f) : ∃ x y r, st = .int y :: .int x :: r ∧ f x y r := by
  unfold am_i2 at h
  split at h
  · exact ⟨_, _, _, rfl, h⟩
  · exact False.elim h
def am_l1 (st : List Value) (f : Int64 → List Value → Prop) : Prop := match st with
  | .long x :: r => f x r
  | _ => False
theorem am_l1_e {st : List Value} {f : Int64 → List Value → Prop} (h : am_l1 st f) : ∃ x r, st = .long x :: r ∧ f x r := by
  unfold am_l1 at h
  split at h
  · exact ⟨_, _, rfl, h⟩
  · exact False.elim h
def am_l2 (st : List Value) (f : Int64 → Int64 → List Value → Prop) : Prop := match st with
  | .long y :: .long x :: r => f x y r
  | _ => False
theorem am_l2_e {st : List Value} {f : Int64 → Int64 → List Value → Prop} (h : am_l2 st f) : ∃ x y r, st = .long y :: .long x :: r ∧ f x y r := by
  unfold am_l2 at h
  split at h
  · exact ⟨_, _, _, rfl, h⟩
  · exact False.elim h
def am_il (st : List Value) (f : Int64 → Int32 → List Value → Prop) : Prop := match st with
  | .int y :: .long x :: r => f x y r
  | _ => False
theorem am_il_e {st : List Value} {f : Int64 → Int32 → List Value → Prop} (h : am_il st f) : ∃ x y r, st = .int y :: .long x :: r ∧ f x y r := by
  unfold am_il at h
  split at h
  · exact ⟨_, _, _, rfl, h⟩
  · exact False.elim h
def am_r1 (st : List Value) (f : Nat → List Value → Prop) : Prop := match st with
  | .ref a :: r => f a r
  | _ => False
theorem am_r1_e {st : List Value} {f : Nat → List Value → Prop} (h : am_r1 st f) : ∃ a r, st = .ref a :: r ∧ f a r := by
  unfold am_r1 at h
  split at h
  · exact ⟨_, _, rfl, h⟩
  · exact False.elim h
def am_ir (st : List Value) (f : Int32 → Nat → List Value → Prop) : Prop := match st with
  | .int i :: .ref a :: r => f i a r
  | _ => False
theorem am_ir_e {st : List Value} {f : Int32 → Nat → List Value → Prop} (h : am_ir st f) : ∃ i a r, st = .int i :: .ref a :: r ∧ f i a r := by
  unfold am_ir at h
  split at h
  · exact ⟨_, _, _, rfl, h⟩
  · exact False.elim h
def am_iir (st : List Value) (f : Int32 → Int32 → Nat → List Value → Prop) : Prop := match st with
  | .int x :: .int i :: .ref a :: r => f x i a r
  | _ => False
theorem am_iir_e {st : List Value} {f : Int32 → Int32 → Nat → List Value → Prop} (h : am_iir st f) : ∃ x i a r, st = .int x :: .int i :: .ref a :: r ∧ f x i a r := by
  unfold am_iir at h
  split at h
  · exact ⟨_, _, _, _, rfl, h⟩
  · exact False.elim h
def am_lir (st : List Value) (f : Int64 → Int32 → Nat → List Value → Prop) : Prop := match st with
  | .long x :: .int i :: .ref a :: r => f x i a r
  | _ => False
theorem am_lir_e {st : List Value} {f : Int64 → Int32 → Nat → List Value → Prop} (h : am_lir st f) : ∃ x i a r, st = .long x :: .int i :: .ref a :: r ∧ f x i a r := by
  unfold am_lir at h
  split at h
  · exact ⟨_, _, _, _, rfl, h⟩
  · exact False.elim h
def am_rir (st : List Value) (f : Nat → Int32 → Nat → List Value → Prop) : Prop := match st with
  | .ref x :: .int i :: .ref a :: r => f x i a r
  | _ => False
theorem am_rir_e {st : List Value} {f : Nat → Int32 → Nat → List Value → Prop} (h : am_rir st f) : ∃ x i a r, st = .ref x :: .int i :: .ref a :: r ∧ f x i a r := by
  unfold am_rir at h
  split at h
  · exact ⟨_, _, _, _, rfl, h⟩
  · exact False.elim h
def am_vr (st : List Value) (f : Value → Nat → List Value → Prop) : Prop := match st with
  | v :: .ref a :: r => f v a r
  | _ => False
theorem am_vr_e {st : List Value} {f : Value → Nat → List Value → Prop} (h : am_vr st f) : ∃ v a r, st = v :: .ref a :: r ∧ f v a r := by
  unfold am_vr at h
  split at h
  · exact ⟨_, _, _, rfl, h⟩
  · exact False.elim h
/-- values of one word on top -/
def am_v1 (st : List Value) (f : Value → List Value → Prop) : Prop := match st with
  | v :: r => match Nat.beq v.category 1 with
    | true => f v r
    | false => False
  | _ => False
theorem am_v1_e {st : List Value} {f : Value → List Value → Prop} (h : am_v1 st f) : ∃ v r, st = v :: r ∧ v.category = 1 ∧ f v r := by
  unfold am_v1 at h
  split at h
  · rename_i v r
    cases hb : Nat.beq v.category 1 with
    | true => rw [hb] at h; exact ⟨_, _, rfl, Nat.eq_of_beq_eq_true hb, h⟩
    | false => rw [hb] at h; exact False.elim h
  · exact False.elim h
def am_lv (lv : List (Option Value)) (i : Nat) (f : Value → Prop) : Prop := match lv[i]? with
  | some (some v) => f v
  | _ => False
theorem am_lv_e {lv : List (Option Value)} {i : Nat} {f : Value → Prop} (h : am_lv lv i f) : ∃ v, lv[i]? = some (some v) ∧ f v := by
  unfold am_lv at h
  split at h
  · rename_i v hv
    exact ⟨_, hv, h⟩
  · exact False.elim h
def am_vi (v : Value) (f : Int32 → Prop) : Prop := match v with
  | .int x => f x
  | _ => False
theorem am_vi_e {v : Value} {f : Int32 → Prop} (h : am_vi v f) : ∃ x, v = .int x ∧ f x := by
  cases v with
  | int x => exact ⟨x, rfl, h⟩
  | _ => exact False.elim h
def am_vl (v : Value) (f : Int64 → Prop) : Prop := match v with
  | .long x => f x
  | _ => False
theorem am_vl_e {v : Value} {f : Int64 → Prop} (h : am_vl v f) : ∃ x, v = .long x ∧ f x := by
  cases v with
  | long x => exact ⟨x, rfl, h⟩
  | _ => exact False.elim h
def am_va (v : Value) (f : Nat → Prop) : Prop := match v with
  | .ref x => f x
  | _ => False
theorem am_va_e {v : Value} {f : Nat → Prop} (h : am_va v f) : ∃ x, v = .ref x ∧ f x := by
  cases v with
  | ref x => exact ⟨x, rfl, h⟩
  | _ => exact False.elim h
/-- a cell of the world, by its place: an object -/
def am_wo (ws : va_W) (qs : List Nat) (f : Nat → Nat → Nat → List Value → Prop) : Prop := match qs with
  | q :: _ => match ws[q]? with
    | some (a, .inr (ci, fs)) => f q a ci fs
    | _ => False
  | _ => False
theorem am_wo_e {ws : va_W} {qs : List Nat} {f : Nat → Nat → Nat → List Value → Prop} (h : am_wo ws qs f) : ∃ q a ci fs, ws[q]? = some (a, .inr (ci, fs)) ∧ f q a ci fs := by
  unfold am_wo at h
  split at h
  · split at h
    · rename_i hw
      exact ⟨_, _, _, _, hw, h⟩
    · exact False.elim h
  · exact False.elim h
/-- an array of ints, bytes, booleans (by its code) -/
def am_wi (t : Nat) (ws : va_W) (qs : List Nat) (f : Nat → Nat → Nat → (Nat → Int32) → Prop) : Prop := match qs with
  | q :: _ => match ws[q]? with
    | some (a, .inl (t', n, .inl g)) => match Nat.beq t' t with
      | true => f q a n g
      | false => False
    | _ => False
  | _ => False
theorem am_wi_e {t : Nat} {ws : va_W} {qs : List Nat} {f : Nat → Nat → Nat → (Nat → Int32) → Prop} (h : am_wi t ws qs f) : ∃ q a n g, ws[q]? = some (a, .inl (t, n, .inl g)) ∧ f q a n g := by
  unfold am_wi at h
  split at h
  · split at h
    · rename_i t' n g hw
      cases hb : Nat.beq t' t with
      | true =>
        have := Nat.eq_of_beq_eq_true hb
        subst this
        rw [hb] at h
        exact ⟨_, _, _, _, hw, h⟩
      | false => rw [hb] at h; exact False.elim h
    · exact False.elim h
  · exact False.elim h
def am_wl (ws : va_W) (qs : List Nat) (f : Nat → Nat → Nat → (Nat → Int64) → Prop) : Prop := match qs with
  | q :: _ => match ws[q]? with
    | some (a, .inl (t', n, .inr (.inl g))) => match Nat.beq t' 3 with
      | true => f q a n g
      | false => False
    | _ => False
  | _ => False
theorem am_wl_e {ws : va_W} {qs : List Nat} {f : Nat → Nat → Nat → (Nat → Int64) → Prop} (h : am_wl ws qs f) : ∃ q a n g, ws[q]? = some (a, .inl (3, n, .inr (.inl g))) ∧ f q a n g := by
  unfold am_wl at h
  split at h
  · split at h
    · rename_i t' n g hw
      cases hb : Nat.beq t' 3 with
      | true =>
        have := Nat.eq_of_beq_eq_true hb
        subst this
        rw [hb] at h
        exact ⟨_, _, _, _, hw, h⟩
      | false => rw [hb] at h; exact False.elim h
    · exact False.elim h
  · exact False.elim h
/-- an array of references to objects of one class -/
def am_wr (tyc : List FieldType) (ws : va_W) (qs : List Nat) (f : Nat → Nat → Nat → Nat → String → (Nat → Option Nat) → Prop) : Prop := match qs with
  | q :: _ => match ws[q]? with
    | some (a, .inl (t, n, .inr (.inr (.inr (.inr g))))) => match tyc[t]? with
      | some (.object C) => f q a t n C g
      | _ => False
    | _ => False
  | _ => False
theorem am_wr_e {tyc : List FieldType} {ws : va_W} {qs : List Nat} {f : Nat → Nat → Nat → Nat → String → (Nat → Option Nat) → Prop} (h : am_wr tyc ws qs f) : ∃ q a t n C g, ws[q]? = some (a, .inl (t, n, .inr (.inr (.inr (.inr g))))) ∧ tyc[t]? = some (.object C) ∧ f q a t n C g := by
  unfold am_wr at h
  split at h
  · split at h
    · rename_i t n g hw
      split at h
      · rename_i C hC
        exact ⟨_, _, _, _, _, _, hw, hC, h⟩
      · exact False.elim h
    · exact False.elim h
  · exact False.elim h
def am_wa (tyc : List FieldType) (ws : va_W) (qs : List Nat) (f : Nat → Nat → Nat → vp_A → FieldType → Prop) : Prop := match qs with
  | q :: _ => match ws[q]? with
    | some (a, .inl (t, x)) => match tyc[t]? with
      | some ty => f q a t x ty
      | none => False
    | _ => False
  | _ => False
theorem am_wa_e {tyc : List FieldType} {ws : va_W} {qs : List Nat} {f : Nat → Nat → Nat → vp_A → FieldType → Prop} (h : am_wa tyc ws qs f) : ∃ q a t x ty, ws[q]? = some (a, .inl (t, x)) ∧ tyc[t]? = some ty ∧ f q a t x ty := by
  unfold am_wa at h
  split at h
  · split at h
    · rename_i t x hw
      split at h
      · rename_i ty hC
        exact ⟨_, _, _, _, _, hw, hC, h⟩
      · exact False.elim h
    · exact False.elim h
  · exact False.elim h
