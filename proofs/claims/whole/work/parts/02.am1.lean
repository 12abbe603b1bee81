/-! am_: a symbolic machine over worlds. A state: pc, locals, operand stack, world (array classes by code), new cells, new slots.
am_st turns an instruction into what must hold ahead of it; am_G, am_C: the kit's W and Met over such states. -/
abbrev am_S : Type := Nat × List (Option Value) × List Value × va_W × Nat × Nat
/-- a method: name, bytes, locals, kind of answer -/
abbrev am_M : Type := MethodName × ByteArray × Nat × Option FieldType
def am_re1 (dA : Nat → ClassId) (e : va_E) : va_E := match e with
  | .inl a => .inl (dA a.1, a.2)
  | .inr o => .inr o
def am_re (dA : Nat → ClassId) (ws : va_W) : va_W := ws.map (fun q => (q.1, am_re1 dA q.2))
def am_tys (tyc : List FieldType) (dA : Nat → ClassId) : List (ClassId × FieldType) := (List.range tyc.length).map (fun i => (dA i, tyc.getD i .int))
theorem am_re_at {dA : Nat → ClassId} {ws : va_W} {k a : Nat} {e : va_E} (h : ws[k]? = some (a, e)) : (am_re dA ws)[k]? = some (a, am_re1 dA e) := by
  unfold am_re
  rw [List.getElem?_map, h]
  rfl
theorem am_re_set {dA : Nat → ClassId} {ws : va_W} {k a : Nat} {e : va_E} : (am_re dA ws).set k (a, am_re1 dA e) = am_re dA (ws.set k (a, e)) := by
  unfold am_re
  rw [List.map_set]
theorem am_re_app {dA : Nat → ClassId} {w1 w2 : va_W} : am_re dA (w1 ++ w2) = am_re dA w1 ++ am_re dA w2 := by
  unfold am_re
  rw [List.map_append]
theorem am_re_inv {dA : Nat → ClassId} {ws : va_W} {k : Nat} {q : Nat × va_E} (h : (am_re dA ws)[k]? = some q) : ∃ e, ws[k]? = some (q.1, e) ∧ q.2 = am_re1 dA e := by
  unfold am_re at h
  rw [List.getElem?_map] at h
  cases h1 : ws[k]? with
  | none => rw [h1] at h; cases h
  | some x =>
    rw [h1] at h
    cases h
    exact ⟨x.2, rfl, rfl⟩
theorem am_tys_at {tyc : List FieldType} {dA : Nat → ClassId} {t : Nat} {ty : FieldType} (h : tyc[t]? = some ty) : (am_tys tyc dA)[t]? = some (dA t, ty) := by
  have ht : t < tyc.length := (List.getElem?_eq_some_iff.mp h).1
  unfold am_tys
  rw [List.getElem?_map, List.getElem?_range ht]
  simp [List.getD, h]
/-! locals -/
def am_L (ls : Array Slot) (lv : List (Option Value)) : Prop := ls.size = lv.length ∧ lv_wf ls ∧ ∀ (j : Nat) (v : Value), lv[j]? = some (some v) → ls[j]? = some (.val v)
def am_as (lv : List (Option Value)) : List (Nat × Value) := lv.zipIdx.filterMap (fun q => q.1.map (fun v => (q.2, v)))
theorem am_as_mem {lv : List (Option Value)} {j : Nat} {v : Value} : (j, v) ∈ am_as lv ↔ lv[j]? = some (some v) := by
  unfold am_as
  rw [List.mem_filterMap]
  constructor
  · rintro ⟨⟨o, i⟩, hm, he⟩
    have h1 := List.mem_zipIdx_iff_getElem?.mp hm
    cases o with
    | none =>
      have he : (none : Option (Nat × Value)) = some (j, v) := he
      cases he
    | some w =>
      have he : some (i, w) = some (j, v) := he
      cases he
      exact h1
  · intro h
    exact ⟨(some v, j), List.mem_zipIdx_iff_getElem?.mpr h, rfl⟩
theorem am_L.has {ls : Array Slot} {lv : List (Option Value)} (h : am_L ls lv) : lv_has ls lv.length (am_as lv) := ⟨h.1, h.2.1, fun q hq => h.2.2 q.1 q.2 (am_as_mem.mp hq)⟩
def am_cl (lv : List (Option Value)) (i : Nat) : List (Option Value) := match i with
  | 0 => lv
  | j + 1 => match lv[j]? with
    | some (some v) => match Nat.beq v.category 2 with
      | true => lv.set j none
      | false => lv
    | _ => lv
def am_s1 (lv : List (Option Value)) (i : Nat) (v : Value) : List (Option Value) := (am_cl lv i).set i (some v)
def am_s2 (lv : List (Option Value)) (i : Nat) (v : Value) : List (Option Value) := ((am_cl lv i).set i (some v)).set (i + 1) none
theorem am_cl_len (lv : List (Option Value)) (i : Nat) : (am_cl lv i).length = lv.length := by
  unfold am_cl
  split
  · rfl
  · split
    · split
      · exact List.length_set
      · rfl
    · rfl
theorem am_cl_spec {lv : List (Option Value)} {i j : Nat} {w : Value} (h : (am_cl lv i)[j]? = some (some w)) : lv[j]? = some (some w) ∧ ¬ (j + 1 = i ∧ w.category = 2) := by
  cases i with
  | zero => exact ⟨h, fun q => by omega⟩
  | succ n =>
    unfold am_cl at h
    cases hn : lv[n]? with
    | none =>
      simp only [hn] at h
      refine ⟨h, fun q => ?_⟩
      have : j = n := by omega
      subst this
      rw [hn] at h
      cases h
    | some o =>
      cases o with
      | none =>
        simp only [hn] at h
        refine ⟨h, fun q => ?_⟩
        have : j = n := by omega
        subst this
        rw [hn] at h
        cases h
      | some v =>
        simp only [hn] at h
        cases hb : Nat.beq v.category 2 with
        | true =>
          simp only [hb] at h
          by_cases e : n = j
          · subst e
            rw [List.getElem?_set_self (List.getElem?_eq_some_iff.mp hn).1] at h
            cases h
          · rw [List.getElem?_set_ne e] at h
            exact ⟨h, fun q => by omega⟩
        | false =>
          simp only [hb] at h
          refine ⟨h, fun q => ?_⟩
          have : j = n := by omega
          subst this
          rw [hn] at h
          cases h
          rw [q.2] at hb
          cases hb
theorem am_s1_ok {ls : Array Slot} {lv : List (Option Value)} {i : Nat} {v : Value} (hi : i < lv.length) (h : lv_has ls lv.length ((i, v) :: (am_as lv).filter (fun q => !(q.1 == i) && !(q.1 + 1 == i && q.2.category == 2)))) : am_L ls (am_s1 lv i v) := by
  refine ⟨by unfold am_s1; rw [List.length_set, am_cl_len]; exact h.1, h.2.1, fun j w hj => ?_⟩
  unfold am_s1 at hj
  by_cases e : i = j
  · subst e
    rw [List.getElem?_set_self (by rw [am_cl_len]; exact hi)] at hj
    cases hj
    exact h.2.2 (i, v) List.mem_cons_self
  · rw [List.getElem?_set_ne e] at hj
    obtain ⟨h1, h2⟩ := am_cl_spec hj
    refine h.2.2 (j, w) (List.mem_cons_of_mem _ (List.mem_filter.mpr ⟨am_as_mem.mpr h1, ?_⟩))
    have e1 : (j == i) = false := by simpa using Ne.symm e
    have e2 : (j + 1 == i && w.category == 2) = false := by
      cases hq : (j + 1 == i && w.category == 2) with
      | false => rfl
      | true =>
        rw [Bool.and_eq_true] at hq
        exact absurd ⟨by simpa using hq.1, by simpa using hq.2⟩ h2
    show (!(j == i) && !(j + 1 == i && w.category == 2)) = true
    rw [e1, e2]
    rfl
theorem am_s2_ok {ls : Array Slot} {lv : List (Option Value)} {i : Nat} {v : Value} (hi : i + 1 < lv.length) (h : lv_has ls lv.length ((i, v) :: (am_as lv).filter (fun q => !(q.1 == i) && (!(q.1 == i + 1) && !(q.1 + 1 == i && q.2.category == 2))))) : am_L ls (am_s2 lv i v) := by
  refine ⟨by unfold am_s2; rw [List.length_set, List.length_set, am_cl_len]; exact h.1, h.2.1, fun j w hj => ?_⟩
  unfold am_s2 at hj
  by_cases e0 : i + 1 = j
  · subst e0
    rw [List.getElem?_set_self (by rw [List.length_set, am_cl_len]; exact hi)] at hj
    cases hj
  · rw [List.getElem?_set_ne e0] at hj
    by_cases e : i = j
    · subst e
      rw [List.getElem?_set_self (by rw [am_cl_len]; omega)] at hj
      cases hj
      exact h.2.2 (i, v) List.mem_cons_self
    · rw [List.getElem?_set_ne e] at hj
      obtain ⟨h1, h2⟩ := am_cl_spec hj
      refine h.2.2 (j, w) (List.mem_cons_of_mem _ (List.mem_filter.mpr ⟨am_as_mem.mpr h1, ?_⟩))
      have e1 : (j == i) = false := by simpa using Ne.symm e
      have e3 : (j == i + 1) = false := by simpa using Ne.symm e0
      have e2 : (j + 1 == i && w.category == 2) = false := by
        cases hq : (j + 1 == i && w.category == 2) with
        | false => rfl
        | true =>
          rw [Bool.and_eq_true] at hq
          exact absurd ⟨by simpa using hq.1, by simpa using hq.2⟩ h2
      show (!(j == i) && (!(j == i + 1) && !(j + 1 == i && w.category == 2))) = true
      rw [e1, e2, e3]
      rfl
/-- the locals at a method's entry -/
def am_en (vs : List Value) : List (Option Value) := match vs with
  | [] => []
  | v :: r => match Nat.beq v.category 2 with
    | true => some v :: none :: am_en r
    | false => some v :: am_en r
theorem am_en_at : ∀ (vs : List Value) (b j : Nat) (w : Value), (am_en vs)[j]? = some (some w) → (b + j, w) ∈ lv_args b vs
  | [], b, j, w, h => by simp [am_en] at h
  | v :: r, b, j, w, h => by
    unfold am_en at h
    unfold lv_args
    cases hb : Nat.beq v.category 2 with
    | true =>
      simp only [hb] at h
      have hc : v.category = 2 := Nat.eq_of_beq_eq_true hb
      rw [if_pos hc]
      cases j with
      | zero => cases h; exact List.mem_cons_self
      | succ j =>
        cases j with
        | zero => cases h
        | succ j =>
          have := am_en_at r (b + 2) j w h
          rw [show b + (j + 1 + 1) = b + 2 + j by omega]
          exact List.mem_cons_of_mem _ this
    | false =>
      simp only [hb] at h
      have hc : ¬ v.category = 2 := fun q => by rw [q] at hb; cases hb
      rw [if_neg hc]
      cases j with
      | zero => cases h; exact List.mem_cons_self
      | succ j =>
        have := am_en_at r (b + 1) j w h
        rw [show b + (j + 1) = b + 1 + j by omega]
        exact List.mem_cons_of_mem _ this
theorem am_en_len : ∀ vs : List Value, (am_en vs).length = (lg_sl vs).length
  | [] => rfl
  | v :: r => by
    unfold am_en
    have ih := am_en_len r
    have e : lg_sl (v :: r) = (if v.category = 2 then [.val v, .second] else [.val v]) ++ lg_sl r := by simp [lg_sl]
    rw [e]
    cases hb : Nat.beq v.category 2 with
    | true =>
      have hc : v.category = 2 := Nat.eq_of_beq_eq_true hb
      rw [if_pos hc]
      simp [ih] <;> omega
    | false =>
      have hc : ¬ v.category = 2 := fun q => by rw [q] at hb; cases hb
      rw [if_neg hc]
      simp [ih] <;> omega
/-- filled up to n places -/
def am_ent (vs : List Value) (n : Nat) : List (Option Value) := am_en vs ++ List.replicate (n - (am_en vs).length) none
theorem am_ent_ok {vs : List Value} {n : Nat} (h : (am_en vs).length ≤ n) : am_L ((lg_sl vs ++ List.replicate (n - (lg_sl vs).length) Slot.unset).toArray) (am_ent vs n) := by
  rw [am_en_len] at h
  have hl := lv_entry vs (n := n) h
  refine ⟨?_, hl.2.1, fun j v hj => ?_⟩
  · rw [hl.1]
    unfold am_ent
    rw [List.length_append, List.length_replicate, am_en_len]
    omega
  · unfold am_ent at hj
    by_cases e : j < (am_en vs).length
    · rw [List.getElem?_append_left e] at hj
      have := am_en_at vs 0 j v hj
      rw [Nat.zero_add] at this
      exact hl.2.2 (j, v) this
    · rw [List.getElem?_append_right (by omega)] at hj
      have h2 := List.mem_of_getElem? hj
      rw [List.mem_replicate] at h2
      cases h2.2
