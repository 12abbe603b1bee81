/-! calls: the callee's cells are cut out by their places, and put back there; what is new comes behind -/
def am_cut (ws : va_W) (ps : List Nat) : va_W := ps.filterMap (fun i => ws[i]?)
def am_put (ws : va_W) (ps : List Nat) (w1 : va_W) : va_W := match ps with
  | [] => ws ++ w1
  | p :: ps => match w1.head? with
    | some x => am_put (ws.set p x) ps w1.tail
    | none => []
theorem am_put_at : ∀ (ps : List Nat) (ws w1 : va_W) (k : Nat) (q : Nat × va_E), (am_put ws ps w1)[k]? = some q →
    (k ∉ ps ∧ ws[k]? = some q) ∨ ∃ j, w1[j]? = some q ∧ (ps[j]? = some k ∨ (ps.length ≤ j ∧ k = ws.length + (j - ps.length)))
  | [], ws, w1, k, q, h => by
    have h : (ws ++ w1)[k]? = some q := h
    by_cases e : k < ws.length
    · rw [List.getElem?_append_left e] at h
      exact Or.inl ⟨by simp, h⟩
    · rw [List.getElem?_append_right (by omega)] at h
      exact Or.inr ⟨k - ws.length, h, Or.inr ⟨Nat.zero_le _, by simp; omega⟩⟩
  | p :: ps, ws, [], k, q, h => by
    have h : ([] : va_W)[k]? = some q := h
    simp at h
  | p :: ps, ws, x :: w1, k, q, h => by
    have h : (am_put (ws.set p x) ps w1)[k]? = some q := h
    rcases am_put_at ps (ws.set p x) w1 k q h with ⟨h1, h2⟩ | ⟨j, h1, h2⟩
    · by_cases e : p = k
      · subst e
        have hl : p < ws.length := by
          have := (List.getElem?_eq_some_iff.mp h2).1
          rw [List.length_set] at this
          exact this
        rw [List.getElem?_set_self hl] at h2
        exact Or.inr ⟨0, h2, Or.inl rfl⟩
      · rw [List.getElem?_set_ne e] at h2
        refine Or.inl ⟨?_, h2⟩
        rw [List.mem_cons]
        rintro (z | z)
        · exact e z.symm
        · exact h1 z
    · refine Or.inr ⟨j + 1, h1, ?_⟩
      rcases h2 with h2 | ⟨h2, h3⟩
      · exact Or.inl h2
      · rw [List.length_set] at h3
        exact Or.inr ⟨by rw [List.length_cons]; omega, by rw [List.length_cons]; omega⟩
theorem am_cut_in {ws : va_W} {ps : List Nat} {j : Nat} {q : Nat × va_E} (h : (am_cut ws ps)[j]? = some q) : ∃ i ∈ ps, ws[i]? = some q := by
  unfold am_cut at h
  exact List.mem_filterMap.mp (List.mem_of_getElem? h)
theorem am_cut_re {dA : Nat → ClassId} {ws : va_W} {ps : List Nat} {j : Nat} {q : Nat × va_E} (h : (am_re dA (am_cut ws ps))[j]? = some q) : ∃ i ∈ ps, (am_re dA ws)[i]? = some q := by
  obtain ⟨e, h1, h2⟩ := am_re_inv h
  obtain ⟨i, hi, h3⟩ := am_cut_in h1
  refine ⟨i, hi, ?_⟩
  rw [am_re_at h3, ← h2]
theorem am_put_re {dA : Nat → ClassId} {ws w1 : va_W} {ps : List Nat} {k : Nat} {q : Nat × va_E} (h : (am_re dA (am_put ws ps w1))[k]? = some q) :
    (k ∉ ps ∧ (am_re dA ws)[k]? = some q) ∨ ∃ j, (am_re dA w1)[j]? = some q ∧ (ps[j]? = some k ∨ (ps.length ≤ j ∧ k = ws.length + (j - ps.length))) := by
  obtain ⟨e, h1, h2⟩ := am_re_inv h
  rcases am_put_at ps ws w1 k _ h1 with ⟨h3, h4⟩ | ⟨j, h3, h4⟩
  · exact Or.inl ⟨h3, by rw [am_re_at h4, ← h2]⟩
  · exact Or.inr ⟨j, by rw [am_re_at h3, ← h2], h4⟩
theorem am_cut_P {D : va_G} {cl : List vw_C} {dA : Nat → ClassId} {ws : va_W} {H : Heap} (h : va_P D cl (am_re dA ws) H) (ps : List Nat) : va_P D cl (am_re dA (am_cut ws ps)) H := by
  intro k q hk
  obtain ⟨i, -, hi⟩ := am_cut_re hk
  exact h i q hi
theorem am_cut_nd {ws : va_W} : ∀ {ps : List Nat}, va_nd ps = true → ∀ (i j : Nat) (p q : Nat × va_E), (am_cut ws ps)[i]? = some p → (am_cut ws ps)[j]? = some q → (∀ (a b : Nat) (p q : Nat × va_E), ws[a]? = some p → ws[b]? = some q → p.1 = q.1 → a = b) → p.1 = q.1 → i = j
  | [], _, i, j, p, q, h1, _, _, _ => by simp [am_cut] at h1
  | a :: ps, hn, i, j, p, q, h1, h2, hw, he => by
    simp only [va_nd, Bool.and_eq_true, decide_eq_true_eq] at hn
    cases hx : ws[a]? with
    | none =>
      have e : am_cut ws (a :: ps) = am_cut ws ps := by simp [am_cut, hx]
      rw [e] at h1 h2
      exact am_cut_nd hn.2 i j p q h1 h2 hw he
    | some x =>
      have e : am_cut ws (a :: ps) = x :: am_cut ws ps := by simp [am_cut, hx]
      rw [e] at h1 h2
      cases i with
      | zero =>
        cases j with
        | zero => rfl
        | succ j =>
          rw [List.getElem?_cons_zero] at h1
          rw [List.getElem?_cons_succ] at h2
          cases h1
          obtain ⟨b, hb, h3⟩ := am_cut_in h2
          have := hw a b _ _ hx h3 he
          rw [this] at hn
          exact absurd hb hn.1
      | succ i =>
        rw [List.getElem?_cons_succ] at h1
        cases j with
        | zero =>
          rw [List.getElem?_cons_zero] at h2
          cases h2
          obtain ⟨b, hb, h3⟩ := am_cut_in h1
          have := hw b a _ _ h3 hx he
          rw [← this] at hn
          exact absurd hb hn.1
        | succ j =>
          rw [List.getElem?_cons_succ] at h2
          rw [am_cut_nd hn.2 i j p q h1 h2 hw he]
theorem am_cut_D {A : Nat → Prop} {dA : Nat → ClassId} {ws : va_W} (h : va_D A (am_re dA ws)) (ps : List Nat) (hn : va_nd ps = true) : va_D A (am_re dA (am_cut ws ps)) := by
  refine ⟨fun i j p q hi hj he => ?_, fun k q hk => ?_⟩
  · obtain ⟨e1, h1, -⟩ := am_re_inv hi
    obtain ⟨e2, h2, -⟩ := am_re_inv hj
    refine am_cut_nd hn i j _ _ h1 h2 (fun a b p q ha hb hq => ?_) he
    obtain ⟨pa, pe⟩ := p
    obtain ⟨qa, qe⟩ := q
    exact h.1 a b _ _ (am_re_at ha) (am_re_at hb) hq
  · obtain ⟨i, -, hi⟩ := am_cut_re hk
    exact h.2 i q hi
theorem am_join {D : va_G} {cl : List vw_C} {dA : Nat → ClassId} {A : Nat → Prop} {ws w1 : va_W} {ps : List Nat} {H H1 : Heap} (hP : va_P D cl (am_re dA ws) H) (hD : va_D A (am_re dA ws))
    (hk : ∀ q : Nat, q < H.size → ¬ va_A (am_re dA (am_cut ws ps)) H.size q → H1[q]? = H[q]?) (hF : ∀ q, va_A (am_re dA (am_cut ws ps)) H.size q → A q) (hP1 : va_P D cl (am_re dA w1) H1) (hD1 : va_D (va_A (am_re dA (am_cut ws ps)) H.size) (am_re dA w1)) :
    va_P D cl (am_re dA (am_put ws ps w1)) H1 ∧ va_D A (am_re dA (am_put ws ps w1)) := by
  have apart : ∀ (k : Nat) (q : Nat × va_E), k ∉ ps → (am_re dA ws)[k]? = some q → q.1 < H.size ∧ ¬ va_A (am_re dA (am_cut ws ps)) H.size q.1 := by
    intro k q hkp hq
    have hlt := (hP k q hq).lt
    refine ⟨hlt, fun z => ?_⟩
    rcases z with ⟨j, e, hj⟩ | z
    · obtain ⟨i, hi, h3⟩ := am_cut_re hj
      have := hD.1 k i _ _ hq h3 rfl
      rw [this] at hkp
      exact hkp hi
    · omega
  refine ⟨fun k q hq => ?_, fun i j p q hi hj he => ?_, fun k q hq => ?_⟩
  · rcases am_put_re hq with ⟨h1, h2⟩ | ⟨j, h1, -⟩
    · obtain ⟨g1, g2⟩ := apart k q h1 h2
      exact (hP k q h2).kept (hk q.1 g1 g2)
    · exact hP1 j q h1
  · rcases am_put_re hi with ⟨h1, h2⟩ | ⟨a, h1, h2⟩
    · rcases am_put_re hj with ⟨h3, h4⟩ | ⟨b, h3, h4⟩
      · exact hD.1 i j _ _ h2 h4 he
      · have := (apart i p h1 h2).2
        rw [he] at this
        exact absurd (hD1.2 b q h3) this
    · rcases am_put_re hj with ⟨h3, h4⟩ | ⟨b, h3, h4⟩
      · have := (apart j q h3 h4).2
        rw [← he] at this
        exact absurd (hD1.2 a p h1) this
      · have hab := hD1.1 a b _ _ h1 h3 he
        subst hab
        rcases h2 with h2 | ⟨h2, h2'⟩
        · rcases h4 with h4 | ⟨h4, h4'⟩
          · rw [h2] at h4
            exact Option.some.inj h4
          · have := (List.getElem?_eq_some_iff.mp h2).1
            omega
        · rcases h4 with h4 | ⟨h4, h4'⟩
          · have := (List.getElem?_eq_some_iff.mp h4).1
            omega
          · omega
  · rcases am_put_re hq with ⟨h1, h2⟩ | ⟨j, h1, -⟩
    · exact hD.2 k q h2
    · exact hF _ (hD1.2 j q h1)
/-- behind a call that has run -/
theorem am_back {P : am_P} {o : am_O} {M : am_M} {d : Nat × Nat} {mc ms mc' ms' : Nat} {K K' : Option Value → va_W → Prop} {pc : Nat} {lv : List (Option Value)} {st0 rest : List Value} {ws : va_W} {ce sl : Nat} {ps : List Nat}
    {p : Program} {l : Launch} {e : Env} {R : Room} {s : State} {m : MethodId} {args a0 : Array Value} {below : List Frame} {meth : Method} {c : Code} {D : va_G} {dA : Nat → ClassId} {A : Nat → Prop} {H : Heap} {locs : List Loc} {ls : Array Slot}
    (X : am_X P o M d mc ms p R s m args meth c D dA A) (hL : am_L ls lv) (hn : lv.length = M.2.2.1) (hP : va_P D P.1 (am_re dA ws) H) (hD : va_D A (am_re dA ws)) (hS : va_S A s.heap H locs)
    (hr : va_Run p l e R s m args below meth c H locs ce sl mc' ms' (F0 m pc ls st0) rest (am_Qc P D dA (va_A (am_re dA (am_cut ws ps)) H.size) K' a0) (va_A (am_re dA (am_cut ws ps)) H.size))
    (hk : ∀ r w1, K' r w1 → am_G P o M d mc ms K (pc + 3, lv, r.toList ++ rest, am_put ws ps w1, ce + mc', sl + ms')) :
    W p l e R s m args below meth c H locs ce sl (MQ below (am_Qc P D dA A K) args s mc ms A) (F0 m pc ls st0) := by
  intro T hT Y
  obtain ⟨v, st₀, t, T', L, h0, Y', hL', e1, e2, ⟨⟨r, w1, hv, hK', hP1, hD1⟩, hz, hkq⟩, stp⟩ := hr T hT Y
  cases hv
  rw [h0] at hz hkq
  have hA := X.2.2.2.2.2.2.2.2.2.2.1
  have hF : ∀ q, va_A (am_re dA (am_cut ws ps)) H.size q → A q := by
    intro q hq
    rcases hq with ⟨j, x, hj⟩ | hq
    · obtain ⟨i, -, hi⟩ := am_cut_re hj
      exact hD.2 i _ hi
    · exact hA q (Nat.le_trans hS.1 hq)
  rw [← e1] at hP1 hz
  obtain ⟨hP2, hD2⟩ := am_join hP hD (fun q h1 h2 => by rw [e1]; exact hkq q h1 h2) hF hP1 hD1
  obtain ⟨t2, a1, b1⟩ := hk v w1 hK' p l e R s m args below meth c D dA A T'.heap (locs ++ L) ls X hL hn hP2 hD2
    ⟨Nat.le_trans hS.1 hz, fun q h1 h2 => by rw [e1, hkq q (Nat.lt_of_lt_of_le h1 hS.1) (fun z => h2 (hF q z))]; exact hS.2.1 q h1 h2, fun q hq => by
      rcases List.mem_append.mp hq with h | h
      · exact hS.2.2 q h
      · exact hF _ (hL' q h)⟩ T' rfl Y'
  exact ⟨t2, stp t2 a1, b1⟩
