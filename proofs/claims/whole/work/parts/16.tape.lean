/-! the tape: its world, and what at(i) answers -/
def am_h (l : List (Nat × List Nat)) (pc : Nat) : List Nat := match am_f1 l pc with
  | some x => x
  | none => []
def tp_w (t a : Nat) (sz ov : Int32) (f : Nat → Int32) : va_W := [(t, .inr (1, [.ref a, .int sz, .int ov])), (a, .inl (0, 160, .inl f))]
def tp_at (sz : Int32) (f : Nat → Int32) (i : Int32) : Int32 := if i < 0 then -1 else if sz ≤ i then -1 else if 160 ≤ i then -1 else f i.toNatClampNeg
set_option maxRecDepth 20000 in
theorem c_T_at {t a : Nat} {sz ov i : Int32} {f : Nat → Int32} {K : Option Value → va_W → Prop} (hK : K (some (.int (tp_at sz f i))) (tp_w t a sz ov f)) : am_C am_p m_T_at (0, 0) 0 0 (tp_w t a sz ov f) [.ref t, .int i] K := by
  refine am_C_of (by decide) (Nat.le_of_ble_eq_true rfl) (0, 0, fun _ => 0) rfl ?_
  refine am_go (E := e_T_at) (am_h [(6, [0]), (14, [0]), (17, [1]), (22, [0]), (26, [1])]) (fun _ => false) 30 am_p_tc am_p_good ok_T_at ?_
  refine And.intro (fun h1 => ?_) (fun h1 => ?_)
  · have e : tp_at sz f i = -1 := by unfold tp_at; rw [if_pos h1]
    rw [e] at hK
    exact hK
  · refine And.intro rfl ?_
    refine And.intro (fun h2 => ?_) (fun h2 => ?_)
    · have e : tp_at sz f i = -1 := by unfold tp_at; rw [if_neg h1, if_pos h2]
      rw [e] at hK
      exact hK
    · refine And.intro rfl ?_
      refine And.intro rfl ?_
      refine And.intro (fun h3 => ?_) (fun h3 => ?_)
      · have h3 : (160 : Int32) ≤ i := h3
        have e : tp_at sz f i = -1 := by unfold tp_at; rw [if_neg h1, if_neg h2, if_pos h3]
        rw [e] at hK
        exact hK
      · refine And.intro rfl ?_
        have h3 : ¬ (160 : Int32) ≤ i := h3
        have e : tp_at sz f i = f i.toNatClampNeg := by unfold tp_at; rw [if_neg h1, if_neg h2, if_neg h3]
        rw [e] at hK
        obtain ⟨j, hj, rfl⟩ := nI_of2 (M := 159) (n := 159) rfl h1 (by
          rw [Int32.le_iff_toInt_le] at h3 ⊢
          have e1 : (160 : Int32).toInt = 160 := rfl
          have e2 : (159 : Int32).toInt = 159 := rfl
          omega)
        exact And.intro rfl (And.intro (vp_in_nI (by omega) (by omega)) hK)
