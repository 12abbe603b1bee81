theorem am_goodIn {P : am_P} (hg : am_good P) {c : Cond} (hc : c ∈ P.2.2.1) : GoodIn P.2.2.1 (c :: P.2.2.1) := fun w hw => by
  rcases List.mem_cons.mp hw with rfl | hw
  · exact ⟨hc, hg.1 _ hc⟩
  · exact ⟨hw, hg.1 _ hw⟩
theorem am_blind {P : am_P} {D : va_G} {dA : Nat → ClassId} {sz : Nat} {ws : va_W} {as : List Value} (hg : am_good P) : FrameBlind (va_Pc as (fun U => U.heap.size = sz ∧ va_P D P.1 (am_re dA ws) U.heap ∧ va_K D P.1 (am_tys P.2.1 dA) U ∧ va_D (fun _ => True) (am_re dA ws) ∧ ∀ w ∈ P.2.2.2, va_Nw w U)) := fun a U g mk q => by
  obtain ⟨q0, q1, qP, qK, qD, qN⟩ := q
  exact ⟨q0, q1, qP, va_K.moved (u := U) (U := U.calling g mk a) (Vm.Alike.refl U.vm) qK, qD, fun w hw => am_N_same (u := U) (hg.2 w hw) rfl (qN w hw)⟩
theorem am_pre {P : am_P} {D : va_G} {dA : Nat → ClassId} {A : Nat → Prop} {H : Heap} {s : State} {ws : va_W} {ps : List Nat} {as : List Value} (hg : am_good P) (hK : va_K D P.1 (am_tys P.2.1 dA) s) (hN : ∀ w ∈ P.2.2.2, va_Nw w s) (hP : va_P D P.1 (am_re dA ws) H) (hD : va_D A (am_re dA ws)) (hnd : va_nd ps = true) :
    ∀ U : State, U.heap = H → s.WarmedH U.vm → va_Pc as (fun U => U.heap.size = H.size ∧ va_P D P.1 (am_re dA (am_cut ws ps)) U.heap ∧ va_K D P.1 (am_tys P.2.1 dA) U ∧ va_D (fun _ => True) (am_re dA (am_cut ws ps)) ∧ ∀ w ∈ P.2.2.2, va_Nw w U) as.toArray U :=
  fun U hU hW => ⟨rfl, by rw [hU], by rw [hU]; exact am_cut_P hP ps, va_K.moved hW.alike hK, (am_cut_D hD ps hnd).weaken (fun _ _ _ _ => trivial), fun w hw => am_N_warm (hg.2 w hw) hW (hN w hw)⟩
theorem am_cA_eq {s : State} {cA cB : ClassId} {ty : FieldType} (h1 : va_RA s cA ty) (h2 : va_RA s cB ty) : cA = cB := by
  cases ty with
  | object C =>
    obtain ⟨_, _, _, _, _, h1⟩ := h1
    obtain ⟨_, _, _, _, _, h2⟩ := h2
    exact Option.some.inj (h1.symm.trans h2)
  | _ => exact Option.some.inj ((show s.vm.findClass _ = some cA from h1).symm.trans (show s.vm.findClass _ = some cB from h2))
section AMC
variable {P : am_P} {o : am_O} {E : am_E} {d : Nat × Nat} {mc ms : Nat} {K : Option Value → va_W → Prop} {pc idx : Nat} {lv : List (Option Value)} {st : List Value} {ws : va_W} {ce sl : Nat} {ps : List Nat} {k : Option Value → List Value → va_W → Nat → Nat → Prop}
variable {p : Program} {l : Launch} {e : Env} {R : Room} {s : State} {m : MethodId} {args : Array Value} {below : List Frame} {meth : Method} {c : Code} {D : va_G} {dA : Nat → ClassId} {A : Nat → Prop} {H : Heap} {locs : List Loc} {ls : Array Slot}
theorem am_cs_ok (hg : am_good P) (hE : am_ok P E) (X : am_X P o E.1 d mc ms p R s m args meth c D dA A) (hL : am_L ls lv) (hn : lv.length = E.1.2.2.1) (hP : va_P D P.1 (am_re dA ws) H) (hD : va_D A (am_re dA ws)) (hS : va_S A s.heap H locs) (hd : decode E.1.2.1 pc = .ok (.invokestatic idx, 3))
    (hk : ∀ r rest ws' ce' sl', k r rest ws' ce' sl' → am_G P o E.1 d mc ms K (pc + 3, lv, r.toList ++ rest, ws', ce', sl')) (h : am_cs P E d mc ms ps idx st ws ce sl k) :
    W p l e R s m args below meth c H locs ce sl (MQ below (am_Qc P D dA A K) args s mc ms A) (F0 m pc ls st) := by
  unfold am_cs at h
  cases hc : E.2.2.2.2.2.1 idx 0 with
  | none => rw [hc] at h; exact False.elim h
  | some r0 =>
    obtain ⟨M', kd, n, mc', ms'⟩ := r0
    rw [hc] at h
    dsimp only at h
    split at h
    · rename_i hb0
      simp only [Bool.and_eq_true] at hb0
      obtain ⟨b1, b2, b3, b4, b5⟩ := hb0
      have b1 := Nat.le_of_ble_eq_true b1
      have b2 := Nat.le_of_ble_eq_true b2
      have b3w := Nat.le_of_ble_eq_true b3.2
      have b3 := Nat.le_of_ble_eq_true b3.1
      have b5 := Nat.le_of_ble_eq_true b5
      obtain ⟨hce, hsl, hC⟩ := h
      have hok := hE.2.2.2.2.1 idx 0 M' kd n mc' ms' hc
      have X0 := X
      obtain ⟨hx, hb, hr, hts, hN, hown, hlk, hml, hnm, hK, hA, hfr, hlo, hmc, hms, ho⟩ := X
      have hM := hC l D dA H.size (d.1 - 1) (d.2 - (19 + M'.2.2.1)) (Nat.le_refl _) (Nat.le_refl _)
      have hst : st = ((st.take n).reverse).reverse ++ st.drop n := by rw [List.reverse_reverse, List.take_append_drop]
      have hlen : (st.take n).reverse.length = n := by rw [List.length_reverse, List.length_take]; omega
      have hsz : ls.size = c.maxLocals := by rw [hL.1, hn, hml]
      have hcases : kd = 0 ∨ kd = 1 := by omega
      rcases hcases with rfl | rfl
      · obtain ⟨⟨k1, k2, k3, k4, k5⟩, k7, k8⟩ := hok
        exact am_back X0 hL hn hP hD hS (va_runS (As := (st.take n).reverse) (rest := st.drop n) (nL := c.maxLocals) ⟨hx, hb, rfl, hown, hts⟩ hM ⟨callB_of n hts (am_goodIn hg k1) rfl rfl rfl (hts _ k2) (hts _ k7) ⟨k3, k4, k5⟩ ⟨by show d.1 - 1 + 1 ≤ R.frames; omega, by show 8 + (M'.2.2.1 + 11) + (d.2 - (19 + M'.2.2.1)) ≤ R.locals; omega⟩, hts _ k8⟩ ⟨am_blind hg, am_pre hg hK hN hP hD b4⟩ rfl hlen hsz hst (lv_room b5) hd ⟨Nat.le_trans hce hmc, Nat.le_trans hsl hms⟩) (fun r w1 hk' => hk _ _ _ _ _ hk')
      · obtain ⟨⟨k1, k2, k3, k4, k5⟩, ⟨host, k7⟩, k8⟩ := hok
        exact am_back X0 hL hn hP hD hS (va_runSN (As := (st.take n).reverse) (rest := st.drop n) (nL := c.maxLocals) ⟨hx, hb, rfl, hown, hts⟩ hM ⟨va_cnB n hts (am_goodIn hg k1) rfl rfl rfl (hN _ k7) (hts _ k2) ⟨k3, k4, k5⟩ ⟨by show d.1 - 1 + 1 ≤ R.frames; omega, by show 8 + (M'.2.2.1 + 11) + (d.2 - (19 + M'.2.2.1)) ≤ R.locals; omega⟩, hts _ k8, trivial⟩ ⟨am_blind hg, am_pre hg hK hN hP hD b4⟩ rfl hlen hsz hst (lv_room b5) hd ⟨Nat.le_trans hce hmc, Nat.le_trans hsl hms⟩) (fun r w1 hk' => hk _ _ _ _ _ hk')
    · exact False.elim h
theorem am_cv_ok {v : Bool} (hg : am_good P) (hE : am_ok P E) (X : am_X P o E.1 d mc ms p R s m args meth c D dA A) (hL : am_L ls lv) (hn : lv.length = E.1.2.2.1) (hP : va_P D P.1 (am_re dA ws) H) (hD : va_D A (am_re dA ws)) (hS : va_S A s.heap H locs) (hd : decode E.1.2.1 pc = .ok (cond v (.invokevirtual idx) (.invokespecial idx), 3))
    (hk : ∀ r rest ws' ce' sl', k r rest ws' ce' sl' → am_G P o E.1 d mc ms K (pc + 3, lv, r.toList ++ rest, ws', ce', sl')) (h : am_cv P E v d mc ms ps idx st ws ce sl k) :
    W p l e R s m args below meth c H locs ce sl (MQ below (am_Qc P D dA A K) args s mc ms A) (F0 m pc ls st) := by
  unfold am_cv at h
  replace h := am_wo_e h
  obtain ⟨q, b', ci, fs, hw, h⟩ := h
  cases hc : E.2.2.2.2.2.1 idx ci with
  | none => rw [hc] at h; exact False.elim h
  | some r0 =>
    obtain ⟨M', kd, n, mc', ms'⟩ := r0
    rw [hc] at h
    dsimp only at h
    have hok := hE.2.2.2.2.1 idx ci M' kd n mc' ms' hc
    have X0 := X
    obtain ⟨hx, hb, hr, hts, hN, hown, hlk, hml, hnm, hK, hA, hfr, hlo, hmc, hms, ho⟩ := X
    have hsz : ls.size = c.maxLocals := by rw [hL.1, hn, hml]
    split at h
    · rename_i b rest hdr
      have hst : st = ((st.take n).reverse).reverse ++ .ref b :: rest := by rw [List.reverse_reverse, ← hdr, List.take_append_drop]
      have hn0 : n ≤ st.length := by
        have := congrArg List.length hdr
        rw [List.length_drop, List.length_cons] at this
        omega
      have hlen : (st.take n).reverse.length = n := by rw [List.length_reverse, List.length_take]; omega
      split at h
      · rename_i hb7
        obtain ⟨hn7, h1d, h2d, hcat, h⟩ := h
        subst hn7
        rw [Bool.and_eq_true] at hb7
        have h7 := Nat.eq_of_beq_eq_true hb7.1
        subst h7
        cases v with
        | true => cases hb7.2
        | false =>
          obtain ⟨-, k7, k8, k9⟩ := hok
          have hst2 : st = .ref b :: rest := hdr
          subst hst2
          have hroom : 2 * (F0 m pc ls (.ref b :: rest)).monitorRoom + (rest.map fun v => v.category).sum ≤ 8 := lv_room hcat
          exact W.objInit hx hb hown (hts _ k7) (hts _ k8) (hts _ k9) rfl hsz rfl hd (by omega) (by omega) (hk none rest ws ce sl h p l e R s m args below meth c D dA A H locs ls X0 hL hn hP hD hS)
      · rename_i hb7 hb0
        obtain ⟨hbb, hce, hsl, hC⟩ := h
        subst hbb
        simp only [Bool.and_eq_true] at hb0
        obtain ⟨b1, b3, b4, b5⟩ := hb0
        have b3w := Nat.le_of_ble_eq_true b3.2
        have b3 := Nat.le_of_ble_eq_true b3.1
        have b5 := Nat.le_of_ble_eq_true b5
        have hM := hC l D dA H.size (d.1 - 1) (d.2 - (19 + M'.2.2.1)) (Nat.le_refl _) (Nat.le_refl _)
        cases v with
        | true =>
          have b1 : (Nat.beq kd 2 || (Nat.beq kd 3 || Nat.beq kd 6)) = true := b1
          rw [Bool.or_eq_true, Bool.or_eq_true] at b1
          rcases b1 with b1 | b1 | b1
          · have h7 := Nat.eq_of_beq_eq_true b1
            subst h7
            obtain ⟨⟨k1, k2, k3, k4, k5⟩, C, T, N, k0, k7, k8, k9⟩ := hok
            exact am_back X0 hL hn hP hD hS (va_runV (As := (st.take n).reverse) (rest := rest) (nL := c.maxLocals) (C := C) ⟨hx, hb, rfl, hown, hts⟩ hM ⟨callB_of n hts (am_goodIn hg k1) rfl rfl rfl (hts _ k2) (hts _ k7) ⟨k3, k4, k5⟩ ⟨by show d.1 - 1 + 1 ≤ R.frames; omega, by show 8 + (M'.2.2.1 + 11) + (d.2 - (19 + M'.2.2.1)) ≤ R.locals; omega⟩, hts _ k8, hts _ k9⟩ ⟨am_blind hg, va_recv hK hP k0 (am_re_at hw), am_pre hg hK hN hP hD b4⟩ rfl hlen hsz hst (lv_room b5) hd ⟨Nat.le_trans hce hmc, Nat.le_trans hsl hms⟩) (fun r w1 hk' => hk _ _ _ _ _ hk')
          · have h7 := Nat.eq_of_beq_eq_true b1
            subst h7
            obtain ⟨⟨k1, k2, k3, k4, k5⟩, C, T, N, host, k0, k7, k8, k9⟩ := hok
            exact am_back X0 hL hn hP hD hS (va_runVN (As := (st.take n).reverse) (rest := rest) (nL := c.maxLocals) (C := C) ⟨hx, hb, rfl, hown, hts⟩ hM ⟨va_cnB n hts (am_goodIn hg k1) rfl rfl rfl (hN _ k7) (hts _ k2) ⟨k3, k4, k5⟩ ⟨by show d.1 - 1 + 1 ≤ R.frames; omega, by show 8 + (M'.2.2.1 + 11) + (d.2 - (19 + M'.2.2.1)) ≤ R.locals; omega⟩, hts _ k8, hts _ k9⟩ ⟨am_blind hg, va_recv hK hP k0 (am_re_at hw), am_pre hg hK hN hP hD b4⟩ rfl hlen hsz hst (lv_room b5) hd ⟨Nat.le_trans hce hmc, Nat.le_trans hsl hms⟩) (fun r w1 hk' => hk _ _ _ _ _ hk')
          · have h7 := Nat.eq_of_beq_eq_true b1
            subst h7
            obtain ⟨⟨k1, k2, k3, k4, k5⟩, C, T, N, x, owner, k0, k7, k8, k9, k10, k11, k12, k13, k14⟩ := hok
            have hdecl : va_Decl s ⟨owner, x.name, x.desc⟩ := by
              rcases k9 with k9 | ⟨k9, b0, m0, r0, k9'⟩
              · exact Cond.declares_spec (args := #[]) (hN _ k9)
              · exact va_Decl.of (hts _ k9) (hts _ k9')
            have hcw : va_CU R s args E.1.1.cls C owner idx x M'.1 M'.2.1 M'.2.2.1 M'.2.2.2 (Cond.code M'.1 M'.2.1 M'.2.2.1 M'.2.2.2 :: P.2.2.1) ({ frames := d.1 - 1, cells := mc', slots := ms', locals := d.2 - (19 + M'.2.2.1) } : Room) mc' ms' n :=
              ⟨⟨rfl, rfl, by show d.1 - 1 + 1 ≤ R.frames; omega, by show 8 + (M'.2.2.1 + 11) + (d.2 - (19 + M'.2.2.1)) ≤ R.locals; omega, pay_in hts (am_goodIn hg k1), List.mem_cons_self⟩, hts _ k1, hts _ k2, ⟨k12, k13⟩, fun sig hs => by rw [hs] at k14; exact (Option.some.inj k14).symm, hts _ k7, hts _ k8, hdecl, hts _ k10, hts _ k11⟩
            exact am_back X0 hL hn hP hD hS (va_runU (As := (st.take n).reverse) (rest := rest) (nL := c.maxLocals) (C := C) ⟨hx, hb, rfl, hown, hts⟩ hM hcw ⟨am_blind hg, va_recv hK hP k0 (am_re_at hw), am_pre hg hK hN hP hD b4⟩ rfl hlen hsz hst (lv_room b5) hd ⟨Nat.le_trans hce hmc, Nat.le_trans hsl hms⟩) (fun r w1 hk' => hk _ _ _ _ _ hk')
        | false =>
          have b1 : (Nat.beq kd 4 || Nat.beq kd 5) = true := b1
          rw [Bool.or_eq_true] at b1
          rcases b1 with b1 | b1
          · have h7 := Nat.eq_of_beq_eq_true b1
            subst h7
            obtain ⟨⟨k1, k2, k3, k4, k5⟩, k0, k7, k8, k9⟩ := hok
            exact am_back X0 hL hn hP hD hS (va_runI (As := (st.take n).reverse) (rest := rest) (nL := c.maxLocals) ⟨hx, hb, rfl, hown, hts⟩ hM ⟨callB_of n hts (am_goodIn hg k1) (by rw [k0]) rfl rfl (hts _ k2) (hts _ k7) ⟨k3, k4, k5⟩ ⟨by show d.1 - 1 + 1 ≤ R.frames; omega, by show 8 + (M'.2.2.1 + 11) + (d.2 - (19 + M'.2.2.1)) ≤ R.locals; omega⟩, k8, hts _ k9⟩ ⟨am_blind hg, am_pre hg hK hN hP hD b4⟩ rfl hlen hsz hst (lv_room b5) hd ⟨Nat.le_trans hce hmc, Nat.le_trans hsl hms⟩) (fun r w1 hk' => hk _ _ _ _ _ hk')
          · have h7 := Nat.eq_of_beq_eq_true b1
            subst h7
            obtain ⟨⟨k1, k2, k3, k4, k5⟩, k0, host, k7, k8, k9⟩ := hok
            exact am_back X0 hL hn hP hD hS (va_runIN (As := (st.take n).reverse) (rest := rest) (nL := c.maxLocals) ⟨hx, hb, rfl, hown, hts⟩ hM ⟨va_cnB n hts (am_goodIn hg k1) (by rw [k0]) rfl rfl (hN _ k7) (hts _ k2) ⟨k3, k4, k5⟩ ⟨by show d.1 - 1 + 1 ≤ R.frames; omega, by show 8 + (M'.2.2.1 + 11) + (d.2 - (19 + M'.2.2.1)) ≤ R.locals; omega⟩, k8, hts _ k9⟩ ⟨am_blind hg, am_pre hg hK hN hP hD b4⟩ rfl hlen hsz hst (lv_room b5) hd ⟨Nat.le_trans hce hmc, Nat.le_trans hsl hms⟩) (fun r w1 hk' => hk _ _ _ _ _ hk')
      · exact False.elim h
    · exact False.elim h
end AMC
theorem am_ft_e {P : am_P} {ci k : Nat} {C : String} {T : u_T} {N : Nat} {ty : FieldType} {b : Bool} (hc : P.1[ci]? = some (C, T, N)) (h : am_ft P ci k = some (ty, b)) : parseFieldDescriptor (T k).2.2.1 = some ty ∧ (T k).2.2.2 = b := by
  unfold am_ft at h
  rw [hc] at h
  try dsimp only at h
  split at h
  · rename_i ty' h1
    cases h
    exact ⟨h1, rfl⟩
  · cases h
theorem am_s1_len (lv : List (Option Value)) (i : Nat) (v : Value) : (am_s1 lv i v).length = lv.length := by
  unfold am_s1
  rw [List.length_set, am_cl_len]
theorem am_s2_len (lv : List (Option Value)) (i : Nat) (v : Value) : (am_s2 lv i v).length = lv.length := by
  unfold am_s2
  rw [List.length_set, List.length_set, am_cl_len]
/-- the kinds of arrays that have a fixed code -/
def am_tc (P : am_P) : Prop := P.2.1[0]? = some .int ∧ P.2.1[1]? = some .byte ∧ P.2.1[2]? = some .boolean ∧ P.2.1[3]? = some .long
section AMN
variable {P : am_P} {o : am_O} {E : am_E} {d : Nat × Nat} {mc ms : Nat} {K : Option Value → va_W → Prop} {pc idx : Nat} {lv : List (Option Value)} {st : List Value} {ws : va_W} {ce sl : Nat} {hint : Nat → List Nat} {k : am_S → Prop}
variable {p : Program} {l : Launch} {e : Env} {R : Room} {s : State} {m : MethodId} {args : Array Value} {below : List Frame} {meth : Method} {c : Code} {D : va_G} {dA : Nat → ClassId} {A : Nat → Prop} {H : Heap} {locs : List Loc} {ls : Array Slot}
theorem am_new_ok (hE : am_ok P E) (X : am_X P o E.1 d mc ms p R s m args meth c D dA A) (hL : am_L ls lv) (hn : lv.length = E.1.2.2.1) (hP : va_P D P.1 (am_re dA ws) H) (hD : va_D A (am_re dA ws)) (hS : va_S A s.heap H locs) (hd : decode E.1.2.1 pc = .ok (.new idx, 3)) (hk : ∀ σ', k σ' → am_G P o E.1 d mc ms K σ')
    (h : match E.2.2.2.2.2.2 idx with
      | some (ci, fs) => ce + 1 ≤ mc ∧ sl + fs.length ≤ ms ∧ ∀ q, k (pc + 3, lv, .ref q :: st, ws ++ [(q, .inr (ci, fs))], ce + 1, sl + fs.length)
      | none => False) : W p l e R s m args below meth c H locs ce sl (MQ below (am_Qc P D dA A K) args s mc ms A) (F0 m pc ls st) := by
  have X0 := X
  obtain ⟨hx, hb, hr, hts, hN, hown, hlk, hml, hnm, hK, hA, hfr, hlo, hmc, hms, ho⟩ := X
  cases hi : E.2.2.2.2.2.2 idx with
  | none => rw [hi] at h; exact False.elim h
  | some cf =>
    obtain ⟨ci, fs⟩ := cf
    rw [hi] at h
    obtain ⟨hce, hsl, h⟩ := h
    obtain ⟨C, T, ty, g1, g2, g3, g4, g5, g6, g7⟩ := hE.2.2.2.2.2 idx ci fs hi
    refine va_new hx hb hts g2 ty g3 hown (hts _ g4) (hts _ g5) (hts _ g6) hK hP hD hS hA g1 g7 (Nat.le_trans hce hmc) (Nat.le_trans hsl hms) hd (fun q H1 hP1 hD1 hS1 => ?_)
    have e1 : am_re dA ws ++ [(q, .inr (ci, fs))] = am_re dA (ws ++ [(q, .inr (ci, fs))]) := (am_re_app (w2 := [(q, .inr (ci, fs))])).symm
    rw [e1] at hP1 hD1
    exact hk _ (h q) p l e R s m args below meth c D dA A H1 locs ls X0 hL hn hP1 hD1 hS1
theorem am_newi_ok (hT : am_tc P) (X : am_X P o E.1 d mc ms p R s m args meth c D dA A) (hL : am_L ls lv) (hn : lv.length = E.1.2.2.1) (hP : va_P D P.1 (am_re dA ws) H) (hD : va_D A (am_re dA ws)) (hS : va_S A s.heap H locs) (hd : decode E.1.2.1 pc = .ok (.newarray .int, 2)) (hk : ∀ σ', k σ' → am_G P o E.1 d mc ms K σ')
    (h : am_i1 st (fun x r => match hint pc with
        | [n] => ¬ x < 0 ∧ x.toNatClampNeg = n ∧ n ≤ 100000 ∧ ce + 1 ≤ mc ∧ sl + n ≤ ms ∧ Cond.arrayClass .int ∈ P.2.2.1 ∧ ∀ q, k (pc + 2, lv, .ref q :: r, ws ++ [(q, .inl (0, n, .inl (fun _ => 0)))], ce + 1, sl + n)
        | _ => False)) : W p l e R s m args below meth c H locs ce sl (MQ below (am_Qc P D dA A K) args s mc ms A) (F0 m pc ls st) := by
  have X0 := X
  obtain ⟨hx, hb, hr, hts, hN, hown, hlk, hml, hnm, hK, hA, hfr, hlo, hmc, hms, ho⟩ := X
  replace h := am_i1_e h
  obtain ⟨x, r, rfl, h⟩ := h
  split at h
  · rename_i n _
    obtain ⟨h1, h2, h3, hce, hsl, h4, h⟩ := h
    have ha : ∀ cA : ClassId, vp_cell cA (n, .inl (fun _ => 0)) = arrV cA n (fun _ => defaultValue .int) := fun cA => rfl
    refine va_newa (a0 := (n, .inl (fun _ => 0))) (atype := .int) (ty := .int) hx hb (hts (.arrayClass .int) h4) rfl hK hP hD hS hA ha h1 h2 (by show n * 4 ≤ _; omega) (Nat.le_trans hce hmc) (Nat.le_trans hsl hms) hd (fun q cA H1 hK1 hP1 hD1 hS1 => ?_)
    have e0 : cA = dA 0 := am_cA_eq (hK1.2 _ _ (List.getElem?_concat_length)).2 (hK.2 _ _ (am_tys_at hT.1)).2
    subst e0
    have e1 : am_re dA ws ++ [(q, .inl (dA 0, n, .inl (fun _ => 0)))] = am_re dA (ws ++ [(q, .inl (0, n, .inl (fun _ => 0)))]) := (am_re_app (w2 := [(q, .inl (0, n, .inl (fun _ => 0)))])).symm
    rw [e1] at hP1 hD1
    exact hk _ (h q) p l e R s m args below meth c D dA A H1 locs ls X0 hL hn hP1 hD1 hS1
  · exact False.elim h
theorem am_newz_ok (hT : am_tc P) (X : am_X P o E.1 d mc ms p R s m args meth c D dA A) (hL : am_L ls lv) (hn : lv.length = E.1.2.2.1) (hP : va_P D P.1 (am_re dA ws) H) (hD : va_D A (am_re dA ws)) (hS : va_S A s.heap H locs) (hd : decode E.1.2.1 pc = .ok (.newarray .boolean, 2)) (hk : ∀ σ', k σ' → am_G P o E.1 d mc ms K σ')
    (h : am_i1 st (fun x r => match hint pc with
        | [n] => ¬ x < 0 ∧ x.toNatClampNeg = n ∧ n ≤ 100000 ∧ ce + 1 ≤ mc ∧ sl + n ≤ ms ∧ Cond.arrayClass .boolean ∈ P.2.2.1 ∧ ∀ q, k (pc + 2, lv, .ref q :: r, ws ++ [(q, .inl (2, n, .inl (fun _ => 0)))], ce + 1, sl + n)
        | _ => False)) : W p l e R s m args below meth c H locs ce sl (MQ below (am_Qc P D dA A K) args s mc ms A) (F0 m pc ls st) := by
  have X0 := X
  obtain ⟨hx, hb, hr, hts, hN, hown, hlk, hml, hnm, hK, hA, hfr, hlo, hmc, hms, ho⟩ := X
  replace h := am_i1_e h
  obtain ⟨x, r, rfl, h⟩ := h
  split at h
  · rename_i n _
    obtain ⟨h1, h2, h3, hce, hsl, h4, h⟩ := h
    have ha : ∀ cA : ClassId, vp_cell cA (n, .inl (fun _ => 0)) = arrV cA n (fun _ => defaultValue .boolean) := fun cA => rfl
    refine va_newa (a0 := (n, .inl (fun _ => 0))) (atype := .boolean) (ty := .boolean) hx hb (hts (.arrayClass .boolean) h4) rfl hK hP hD hS hA ha h1 h2 (by show n * 1 ≤ _; omega) (Nat.le_trans hce hmc) (Nat.le_trans hsl hms) hd (fun q cA H1 hK1 hP1 hD1 hS1 => ?_)
    have e0 : cA = dA 2 := am_cA_eq (hK1.2 _ _ (List.getElem?_concat_length)).2 (hK.2 _ _ (am_tys_at hT.2.2.1)).2
    subst e0
    have e1 : am_re dA ws ++ [(q, .inl (dA 2, n, .inl (fun _ => 0)))] = am_re dA (ws ++ [(q, .inl (2, n, .inl (fun _ => 0)))]) := (am_re_app (w2 := [(q, .inl (2, n, .inl (fun _ => 0)))])).symm
    rw [e1] at hP1 hD1
    exact hk _ (h q) p l e R s m args below meth c D dA A H1 locs ls X0 hL hn hP1 hD1 hS1
  · exact False.elim h
theorem am_newl_ok (hT : am_tc P) (X : am_X P o E.1 d mc ms p R s m args meth c D dA A) (hL : am_L ls lv) (hn : lv.length = E.1.2.2.1) (hP : va_P D P.1 (am_re dA ws) H) (hD : va_D A (am_re dA ws)) (hS : va_S A s.heap H locs) (hd : decode E.1.2.1 pc = .ok (.newarray .long, 2)) (hk : ∀ σ', k σ' → am_G P o E.1 d mc ms K σ')
    (h : am_i1 st (fun x r => match hint pc with
        | [n] => ¬ x < 0 ∧ x.toNatClampNeg = n ∧ n ≤ 100000 ∧ ce + 1 ≤ mc ∧ sl + n ≤ ms ∧ Cond.arrayClass .long ∈ P.2.2.1 ∧ ∀ q, k (pc + 2, lv, .ref q :: r, ws ++ [(q, .inl (3, n, .inr (.inl (fun _ => 0))))], ce + 1, sl + n)
        | _ => False)) : W p l e R s m args below meth c H locs ce sl (MQ below (am_Qc P D dA A K) args s mc ms A) (F0 m pc ls st) := by
  have X0 := X
  obtain ⟨hx, hb, hr, hts, hN, hown, hlk, hml, hnm, hK, hA, hfr, hlo, hmc, hms, ho⟩ := X
  replace h := am_i1_e h
  obtain ⟨x, r, rfl, h⟩ := h
  split at h
  · rename_i n _
    obtain ⟨h1, h2, h3, hce, hsl, h4, h⟩ := h
    have ha : ∀ cA : ClassId, vp_cell cA (n, .inr (.inl (fun _ => 0))) = arrV cA n (fun _ => defaultValue .long) := fun cA => rfl
    refine va_newa (a0 := (n, .inr (.inl (fun _ => 0)))) (atype := .long) (ty := .long) hx hb (hts (.arrayClass .long) h4) rfl hK hP hD hS hA ha h1 h2 (by show n * 8 ≤ _; omega) (Nat.le_trans hce hmc) (Nat.le_trans hsl hms) hd (fun q cA H1 hK1 hP1 hD1 hS1 => ?_)
    have e0 : cA = dA 3 := am_cA_eq (hK1.2 _ _ (List.getElem?_concat_length)).2 (hK.2 _ _ (am_tys_at hT.2.2.2)).2
    subst e0
    have e1 : am_re dA ws ++ [(q, .inl (dA 3, n, .inr (.inl (fun _ => 0))))] = am_re dA (ws ++ [(q, .inl (3, n, .inr (.inl (fun _ => 0))))]) := (am_re_app (w2 := [(q, .inl (3, n, .inr (.inl (fun _ => 0))))])).symm
    rw [e1] at hP1 hD1
    exact hk _ (h q) p l e R s m args below meth c D dA A H1 locs ls X0 hL hn hP1 hD1 hS1
  · exact False.elim h
theorem am_newr_ok (X : am_X P o E.1 d mc ms p R s m args meth c D dA A) (hL : am_L ls lv) (hn : lv.length = E.1.2.2.1) (hP : va_P D P.1 (am_re dA ws) H) (hD : va_D A (am_re dA ws)) (hS : va_S A s.heap H locs) (hd : decode E.1.2.1 pc = .ok (.anewarray idx, 3)) (hk : ∀ σ', k σ' → am_G P o E.1 d mc ms K σ')
    (h : am_i1 st (fun x r => match hint pc with
        | [n, t] => ¬ x < 0 ∧ x.toNatClampNeg = n ∧ n ≤ 100000 ∧ ce + 1 ≤ mc ∧ sl + n ≤ ms ∧ (∃ C, P.2.1[t]? = some (.object C) ∧ Cond.classLink E.1.1.cls idx C ∈ P.2.2.1 ∧ Cond.arrayOver (.object C) ∈ P.2.2.2) ∧ ∀ q, k (pc + 3, lv, .ref q :: r, ws ++ [(q, .inl (t, n, .inr (.inr (.inr (.inr (fun _ => none))))))], ce + 1, sl + n)
        | _ => False)) : W p l e R s m args below meth c H locs ce sl (MQ below (am_Qc P D dA A K) args s mc ms A) (F0 m pc ls st) := by
  have X0 := X
  obtain ⟨hx, hb, hr, hts, hN, hown, hlk, hml, hnm, hK, hA, hfr, hlo, hmc, hms, ho⟩ := X
  replace h := am_i1_e h
  obtain ⟨x, r, rfl, h⟩ := h
  split at h
  · rename_i n t _
    obtain ⟨h1, h2, h3, hce, hsl, ⟨C, hC, h4, h5⟩, h⟩ := h
    refine va_newq hx hb hown (hts _ h4) (hN _ h5) hK hP hD hS hA h1 h2 (by omega) (Nat.le_trans hce hmc) (Nat.le_trans hsl hms) hd (fun q cA H1 hK1 hP1 hD1 hS1 => ?_)
    have e0 : cA = dA t := am_cA_eq (hK1.2 _ _ (List.getElem?_concat_length)).2 (hK.2 _ _ (am_tys_at hC)).2
    subst e0
    have e1 : am_re dA ws ++ [(q, .inl (dA t, n, .inr (.inr (.inr (.inr (fun _ => none))))))] = am_re dA (ws ++ [(q, .inl (t, n, .inr (.inr (.inr (.inr (fun _ => none))))))]) := (am_re_app (w2 := [(q, .inl (t, n, .inr (.inr (.inr (.inr (fun _ => none))))))])).symm
    rw [e1] at hP1 hD1
    exact hk _ (h q) p l e R s m args below meth c D dA A H1 locs ls X0 hL hn hP1 hD1 hS1
  · exact False.elim h
end AMN
set_option maxHeartbeats 8000000 in
theorem am_st_ok {P : am_P} {o : am_O} {E : am_E} {d : Nat × Nat} {mc ms : Nat} {hint : Nat → List Nat} {Q : Option Value → va_W → Prop} {k : am_S → Prop} {σ : am_S} (hT : am_tc P) (hg : am_good P) (hE : am_ok P E) (hk : ∀ σ', k σ' → am_G P o E.1 d mc ms Q σ') (h : am_st P o E d mc ms hint Q k σ) : am_G P o E.1 d mc ms Q σ := by
  obtain ⟨pc, lv, st, ws, ce, sl⟩ := σ
  intro p l e R s m args below meth c D dA A H locs ls X hL hn hP hD hS
  have X0 := X
  obtain ⟨hx, hb, hr, hts, hN, hown, hlk, hml, hnm, hK, hA, hfr, hlo, hmc, hms, ho⟩ := X
  dsimp only at hL hn hP hD
  show W p l e R s m args below meth c H locs ce sl (MQ below (am_Qc P D dA A Q) args s mc ms A) (F0 m pc ls st)
  unfold am_st at h
  try dsimp only at h
  cases hc : E.2.1 pc with
  | none => rw [hc] at h; exact False.elim h
  | some it =>
  obtain ⟨ins, tg⟩ := it
  rw [hc] at h
  try dsimp only at h
  obtain ⟨hd0, htg⟩ := hE.1 pc ins tg hc
  have hret : ∀ r, Q r ws → ∀ t : State, t.heap = H → s.WarmedH t.vm → am_Qc P D dA A Q args s (.returned r) t := fun r hq t ht _ => ⟨⟨r, ws, rfl, hq, by rw [ht]; exact hP, hD⟩, hS.F ht⟩
  cases ins with
  | iconst v =>
    have hd : decode E.1.2.1 pc = .ok (.iconst v, 1) := am_hd hd0 (by show (1 : Nat) ≠ 0; decide)
    exact lv_iconst hx hb hd rfl (hk _ h p l e R s m args below meth c D dA A H locs ls X0 hL hn hP hD hS)
  | bipush v =>
    have hd : decode E.1.2.1 pc = .ok (.bipush v, 2) := am_hd hd0 (by show (2 : Nat) ≠ 0; decide)
    exact lv_bipush hx hb hd rfl (hk _ h p l e R s m args below meth c D dA A H locs ls X0 hL hn hP hD hS)
  | sipush v =>
    have hd : decode E.1.2.1 pc = .ok (.sipush v, 3) := am_hd hd0 (by show (3 : Nat) ≠ 0; decide)
    exact lv_sipush hx hb hd rfl (hk _ h p l e R s m args below meth c D dA A H locs ls X0 hL hn hP hD hS)
  | lconst v =>
    have hd : decode E.1.2.1 pc = .ok (.lconst v, 1) := am_hd hd0 (by show (1 : Nat) ≠ 0; decide)
    exact lv_lconst hx hb hd rfl (hk _ h p l e R s m args below meth c D dA A H locs ls X0 hL hn hP hD hS)
  | ldc idx =>
    have hd : decode E.1.2.1 pc = .ok (.ldc idx, 2) := am_hd hd0 (by show (2 : Nat) ≠ 0; decide)
    try dsimp only at h
    cases hi : E.2.2.2.1 idx with
    | none => rw [hi] at h; exact False.elim h
    | some v =>
      rw [hi] at h
      exact lv_ldc hx hb hown (hts _ (hE.2.2.1 idx v hi)) hd (hk _ h p l e R s m args below meth c D dA A H locs ls X0 hL hn hP hD hS)
  | ldc_w idx =>
    have hd : decode E.1.2.1 pc = .ok (.ldc_w idx, 3) := am_hd hd0 (by show (3 : Nat) ≠ 0; decide)
    try dsimp only at h
    cases hi : E.2.2.2.1 idx with
    | none => rw [hi] at h; exact False.elim h
    | some v =>
      rw [hi] at h
      exact lv_ldcw hx hb hown (hts _ (hE.2.2.1 idx v hi)) hd (hk _ h p l e R s m args below meth c D dA A H locs ls X0 hL hn hP hD hS)
  | ldc2_w idx =>
    have hd : decode E.1.2.1 pc = .ok (.ldc2_w idx, 3) := am_hd hd0 (by show (3 : Nat) ≠ 0; decide)
    try dsimp only at h
    cases hi : E.2.2.2.2.1 idx with
    | none => rw [hi] at h; exact False.elim h
    | some v =>
      rw [hi] at h
      exact lv_ldc2 hx hb hown (hts _ (hE.2.2.2.1 idx v hi)) hd (hk _ h p l e R s m args below meth c D dA A H locs ls X0 hL hn hP hD hS)
  | iload_n n =>
    have hd : decode E.1.2.1 pc = .ok (.iload_n n, 1) := am_hd hd0 (by show (1 : Nat) ≠ 0; decide)
    replace h := am_lv_e h
    obtain ⟨v, hv, h⟩ := h
    replace h := am_vi_e h
    obtain ⟨x, rfl, h⟩ := h
    exact lv_iload_n hx hb hd rfl (hL.2.2 _ _ hv) (hk _ h p l e R s m args below meth c D dA A H locs ls X0 hL hn hP hD hS)
  | iload n =>
    have hd : decode E.1.2.1 pc = .ok (.iload n, 2) := am_hd hd0 (by show (2 : Nat) ≠ 0; decide)
    replace h := am_lv_e h
    obtain ⟨v, hv, h⟩ := h
    replace h := am_vi_e h
    obtain ⟨x, rfl, h⟩ := h
    exact lv_iload hx hb hd (hL.2.2 _ _ hv) (hk _ h p l e R s m args below meth c D dA A H locs ls X0 hL hn hP hD hS)
  | lload_n n =>
    have hd : decode E.1.2.1 pc = .ok (.lload_n n, 1) := am_hd hd0 (by show (1 : Nat) ≠ 0; decide)
    replace h := am_lv_e h
    obtain ⟨v, hv, h⟩ := h
    replace h := am_vl_e h
    obtain ⟨x, rfl, h⟩ := h
    exact lv_lload_n hx hb hd rfl (hL.2.2 _ _ hv) (hk _ h p l e R s m args below meth c D dA A H locs ls X0 hL hn hP hD hS)
  | lload n =>
    have hd : decode E.1.2.1 pc = .ok (.lload n, 2) := am_hd hd0 (by show (2 : Nat) ≠ 0; decide)
    replace h := am_lv_e h
    obtain ⟨v, hv, h⟩ := h
    replace h := am_vl_e h
    obtain ⟨x, rfl, h⟩ := h
    exact lv_lload hx hb hd (hL.2.2 _ _ hv) (hk _ h p l e R s m args below meth c D dA A H locs ls X0 hL hn hP hD hS)
  | aload_n n =>
    have hd : decode E.1.2.1 pc = .ok (.aload_n n, 1) := am_hd hd0 (by show (1 : Nat) ≠ 0; decide)
    replace h := am_lv_e h
    obtain ⟨v, hv, h⟩ := h
    replace h := am_va_e h
    obtain ⟨x, rfl, h⟩ := h
    exact lv_aload_n hx hb hd rfl (hL.2.2 _ _ hv) (hk _ h p l e R s m args below meth c D dA A H locs ls X0 hL hn hP hD hS)
  | aload n =>
    have hd : decode E.1.2.1 pc = .ok (.aload n, 2) := am_hd hd0 (by show (2 : Nat) ≠ 0; decide)
    replace h := am_lv_e h
    obtain ⟨v, hv, h⟩ := h
    replace h := am_va_e h
    obtain ⟨x, rfl, h⟩ := h
    exact lv_aload hx hb hd (hL.2.2 _ _ hv) (hk _ h p l e R s m args below meth c D dA A H locs ls X0 hL hn hP hD hS)
  | istore_n n =>
    have hd : decode E.1.2.1 pc = .ok (.istore_n n, 1) := am_hd hd0 (by show (1 : Nat) ≠ 0; decide)
    replace h := am_i1_e h
    obtain ⟨x, r, rfl, hi, h⟩ := h
    exact lv_istore_n hx hb hd rfl hL.has hi rfl (fun ls' hl' => hk _ h p l e R s m args below meth c D dA A H locs ls' X0 (am_s1_ok hi hl') ((am_s1_len _ _ _).trans hn) hP hD hS)
  | istore n =>
    have hd : decode E.1.2.1 pc = .ok (.istore n, 2) := am_hd hd0 (by show (2 : Nat) ≠ 0; decide)
    replace h := am_i1_e h
    obtain ⟨x, r, rfl, hi, h⟩ := h
    exact lv_istore hx hb hd hL.has hi rfl (fun ls' hl' => hk _ h p l e R s m args below meth c D dA A H locs ls' X0 (am_s1_ok hi hl') ((am_s1_len _ _ _).trans hn) hP hD hS)
  | lstore_n n =>
    have hd : decode E.1.2.1 pc = .ok (.lstore_n n, 1) := am_hd hd0 (by show (1 : Nat) ≠ 0; decide)
    replace h := am_l1_e h
    obtain ⟨x, r, rfl, hi, h⟩ := h
    exact lv_lstore_n hx hb hd rfl hL.has hi rfl (fun ls' hl' => hk _ h p l e R s m args below meth c D dA A H locs ls' X0 (am_s2_ok hi hl') ((am_s2_len _ _ _).trans hn) hP hD hS)
  | lstore n =>
    have hd : decode E.1.2.1 pc = .ok (.lstore n, 2) := am_hd hd0 (by show (2 : Nat) ≠ 0; decide)
    replace h := am_l1_e h
    obtain ⟨x, r, rfl, hi, h⟩ := h
    exact lv_lstore hx hb hd hL.has hi rfl (fun ls' hl' => hk _ h p l e R s m args below meth c D dA A H locs ls' X0 (am_s2_ok hi hl') ((am_s2_len _ _ _).trans hn) hP hD hS)
  | astore_n n =>
    have hd : decode E.1.2.1 pc = .ok (.astore_n n, 1) := am_hd hd0 (by show (1 : Nat) ≠ 0; decide)
    replace h := am_r1_e h
    obtain ⟨x, r, rfl, hi, h⟩ := h
    exact lv_astore_n hx hb hd rfl hL.has hi rfl (fun ls' hl' => hk _ h p l e R s m args below meth c D dA A H locs ls' X0 (am_s1_ok hi hl') ((am_s1_len _ _ _).trans hn) hP hD hS)
  | astore n =>
    have hd : decode E.1.2.1 pc = .ok (.astore n, 2) := am_hd hd0 (by show (2 : Nat) ≠ 0; decide)
    replace h := am_r1_e h
    obtain ⟨x, r, rfl, hi, h⟩ := h
    exact lv_astore hx hb hd hL.has hi rfl (fun ls' hl' => hk _ h p l e R s m args below meth c D dA A H locs ls' X0 (am_s1_ok hi hl') ((am_s1_len _ _ _).trans hn) hP hD hS)
  | iinc n z =>
    have hd : decode E.1.2.1 pc = .ok (.iinc n z, 3) := am_hd hd0 (by show (3 : Nat) ≠ 0; decide)
    replace h := am_lv_e h
    obtain ⟨v, hv, h⟩ := h
    replace h := am_vi_e h
    obtain ⟨x, rfl, hi, h⟩ := h
    obtain ⟨j, hj⟩ := List.getElem?_of_mem (am_as_mem.mpr hv)
    exact lv_iinc hx hb hd hL.has hj rfl hi rfl (fun ls' hl' => hk _ h p l e R s m args below meth c D dA A H locs ls' X0 (am_s1_ok hi hl') ((am_s1_len _ _ _).trans hn) hP hD hS)
  | iadd =>
    have hd : decode E.1.2.1 pc = .ok (.iadd, 1) := am_hd hd0 (by show (1 : Nat) ≠ 0; decide)
    replace h := am_i2_e h
    obtain ⟨x, y, r, rfl, h⟩ := h
    exact lv_iadd hx hb hd (hk _ h p l e R s m args below meth c D dA A H locs ls X0 hL hn hP hD hS)
  | isub =>
    have hd : decode E.1.2.1 pc = .ok (.isub, 1) := am_hd hd0 (by show (1 : Nat) ≠ 0; decide)
    replace h := am_i2_e h
    obtain ⟨x, y, r, rfl, h⟩ := h
    exact lv_isub hx hb hd (hk _ h p l e R s m args below meth c D dA A H locs ls X0 hL hn hP hD hS)
  | imul =>
    have hd : decode E.1.2.1 pc = .ok (.imul, 1) := am_hd hd0 (by show (1 : Nat) ≠ 0; decide)
    replace h := am_i2_e h
    obtain ⟨x, y, r, rfl, h⟩ := h
    exact lv_imul hx hb hd (hk _ h p l e R s m args below meth c D dA A H locs ls X0 hL hn hP hD hS)
  | iand =>
    have hd : decode E.1.2.1 pc = .ok (.iand, 1) := am_hd hd0 (by show (1 : Nat) ≠ 0; decide)
    replace h := am_i2_e h
    obtain ⟨x, y, r, rfl, h⟩ := h
    exact lv_iand hx hb hd (hk _ h p l e R s m args below meth c D dA A H locs ls X0 hL hn hP hD hS)
  | ior =>
    have hd : decode E.1.2.1 pc = .ok (.ior, 1) := am_hd hd0 (by show (1 : Nat) ≠ 0; decide)
    replace h := am_i2_e h
    obtain ⟨x, y, r, rfl, h⟩ := h
    exact lv_ior hx hb hd (hk _ h p l e R s m args below meth c D dA A H locs ls X0 hL hn hP hD hS)
  | ixor =>
    have hd : decode E.1.2.1 pc = .ok (.ixor, 1) := am_hd hd0 (by show (1 : Nat) ≠ 0; decide)
    replace h := am_i2_e h
    obtain ⟨x, y, r, rfl, h⟩ := h
    exact lv_ixor hx hb hd (hk _ h p l e R s m args below meth c D dA A H locs ls X0 hL hn hP hD hS)
  | ishl =>
    have hd : decode E.1.2.1 pc = .ok (.ishl, 1) := am_hd hd0 (by show (1 : Nat) ≠ 0; decide)
    replace h := am_i2_e h
    obtain ⟨x, y, r, rfl, h⟩ := h
    exact lv_ishl hx hb hd (hk _ h p l e R s m args below meth c D dA A H locs ls X0 hL hn hP hD hS)
  | ishr =>
    have hd : decode E.1.2.1 pc = .ok (.ishr, 1) := am_hd hd0 (by show (1 : Nat) ≠ 0; decide)
    replace h := am_i2_e h
    obtain ⟨x, y, r, rfl, h⟩ := h
    exact lv_ishr hx hb hd (hk _ h p l e R s m args below meth c D dA A H locs ls X0 hL hn hP hD hS)
  | iushr =>
    have hd : decode E.1.2.1 pc = .ok (.iushr, 1) := am_hd hd0 (by show (1 : Nat) ≠ 0; decide)
    replace h := am_i2_e h
    obtain ⟨x, y, r, rfl, h⟩ := h
    exact lv_iushr hx hb hd rfl (hk _ h p l e R s m args below meth c D dA A H locs ls X0 hL hn hP hD hS)
  | idiv =>
    have hd : decode E.1.2.1 pc = .ok (.idiv, 1) := am_hd hd0 (by show (1 : Nat) ≠ 0; decide)
    replace h := am_i2_e h
    obtain ⟨x, y, r, rfl, h0, h⟩ := h
    exact lv_idiv hx hb hd h0 (hk _ h p l e R s m args below meth c D dA A H locs ls X0 hL hn hP hD hS)
  | irem =>
    have hd : decode E.1.2.1 pc = .ok (.irem, 1) := am_hd hd0 (by show (1 : Nat) ≠ 0; decide)
    replace h := am_i2_e h
    obtain ⟨x, y, r, rfl, h0, h⟩ := h
    exact lv_irem hx hb hd h0 (hk _ h p l e R s m args below meth c D dA A H locs ls X0 hL hn hP hD hS)
  | ineg =>
    have hd : decode E.1.2.1 pc = .ok (.ineg, 1) := am_hd hd0 (by show (1 : Nat) ≠ 0; decide)
    replace h := am_i1_e h
    obtain ⟨x, r, rfl, h⟩ := h
    exact lv_ineg hx hb hd (hk _ h p l e R s m args below meth c D dA A H locs ls X0 hL hn hP hD hS)
  | ladd =>
    have hd : decode E.1.2.1 pc = .ok (.ladd, 1) := am_hd hd0 (by show (1 : Nat) ≠ 0; decide)
    replace h := am_l2_e h
    obtain ⟨x, y, r, rfl, h⟩ := h
    exact lv_ladd hx hb hd (hk _ h p l e R s m args below meth c D dA A H locs ls X0 hL hn hP hD hS)
  | lsub =>
    have hd : decode E.1.2.1 pc = .ok (.lsub, 1) := am_hd hd0 (by show (1 : Nat) ≠ 0; decide)
    replace h := am_l2_e h
    obtain ⟨x, y, r, rfl, h⟩ := h
    exact lv_lsub hx hb hd (hk _ h p l e R s m args below meth c D dA A H locs ls X0 hL hn hP hD hS)
  | land =>
    have hd : decode E.1.2.1 pc = .ok (.land, 1) := am_hd hd0 (by show (1 : Nat) ≠ 0; decide)
    replace h := am_l2_e h
    obtain ⟨x, y, r, rfl, h⟩ := h
    exact lv_land hx hb hd (hk _ h p l e R s m args below meth c D dA A H locs ls X0 hL hn hP hD hS)
  | lor =>
    have hd : decode E.1.2.1 pc = .ok (.lor, 1) := am_hd hd0 (by show (1 : Nat) ≠ 0; decide)
    replace h := am_l2_e h
    obtain ⟨x, y, r, rfl, h⟩ := h
    exact lv_lor hx hb hd (hk _ h p l e R s m args below meth c D dA A H locs ls X0 hL hn hP hD hS)
  | lxor =>
    have hd : decode E.1.2.1 pc = .ok (.lxor, 1) := am_hd hd0 (by show (1 : Nat) ≠ 0; decide)
    replace h := am_l2_e h
    obtain ⟨x, y, r, rfl, h⟩ := h
    exact lv_lxor hx hb hd (hk _ h p l e R s m args below meth c D dA A H locs ls X0 hL hn hP hD hS)
  | lshl =>
    have hd : decode E.1.2.1 pc = .ok (.lshl, 1) := am_hd hd0 (by show (1 : Nat) ≠ 0; decide)
    replace h := am_il_e h
    obtain ⟨x, y, r, rfl, h⟩ := h
    exact lv_lshl hx hb hd rfl (hk _ h p l e R s m args below meth c D dA A H locs ls X0 hL hn hP hD hS)
  | lushr =>
    have hd : decode E.1.2.1 pc = .ok (.lushr, 1) := am_hd hd0 (by show (1 : Nat) ≠ 0; decide)
    replace h := am_il_e h
    obtain ⟨x, y, r, rfl, h⟩ := h
    exact lv_lushr hx hb hd rfl (hk _ h p l e R s m args below meth c D dA A H locs ls X0 hL hn hP hD hS)
  | lshr =>
    have hd : decode E.1.2.1 pc = .ok (.lshr, 1) := am_hd hd0 (by show (1 : Nat) ≠ 0; decide)
    replace h := am_il_e h
    obtain ⟨x, y, r, rfl, h⟩ := h
    exact lv_lshr hx hb hd rfl (hk _ h p l e R s m args below meth c D dA A H locs ls X0 hL hn hP hD hS)
  | lcmp =>
    have hd : decode E.1.2.1 pc = .ok (.lcmp, 1) := am_hd hd0 (by show (1 : Nat) ≠ 0; decide)
    replace h := am_l2_e h
    obtain ⟨x, y, r, rfl, h⟩ := h
    exact W.lcmp hx hb hd (hk _ h p l e R s m args below meth c D dA A H locs ls X0 hL hn hP hD hS)
  | i2l =>
    have hd : decode E.1.2.1 pc = .ok (.i2l, 1) := am_hd hd0 (by show (1 : Nat) ≠ 0; decide)
    replace h := am_i1_e h
    obtain ⟨x, r, rfl, h⟩ := h
    exact lv_i2l hx hb hd rfl (hk _ h p l e R s m args below meth c D dA A H locs ls X0 hL hn hP hD hS)
  | l2i =>
    have hd : decode E.1.2.1 pc = .ok (.l2i, 1) := am_hd hd0 (by show (1 : Nat) ≠ 0; decide)
    replace h := am_l1_e h
    obtain ⟨x, r, rfl, h⟩ := h
    exact lv_l2i hx hb hd rfl (hk _ h p l e R s m args below meth c D dA A H locs ls X0 hL hn hP hD hS)
  | i2b =>
    have hd : decode E.1.2.1 pc = .ok (.i2b, 1) := am_hd hd0 (by show (1 : Nat) ≠ 0; decide)
    replace h := am_i1_e h
    obtain ⟨x, r, rfl, h⟩ := h
    exact lv_i2b hx hb hd rfl (hk _ h p l e R s m args below meth c D dA A H locs ls X0 hL hn hP hD hS)
  | dup =>
    have hd : decode E.1.2.1 pc = .ok (.dup, 1) := am_hd hd0 (by show (1 : Nat) ≠ 0; decide)
    replace h := am_v1_e h
    obtain ⟨v, r, rfl, h1, h⟩ := h
    exact lv_dup hx hb hd h1 (hk _ h p l e R s m args below meth c D dA A H locs ls X0 hL hn hP hD hS)
  | pop =>
    have hd : decode E.1.2.1 pc = .ok (.pop, 1) := am_hd hd0 (by show (1 : Nat) ≠ 0; decide)
    replace h := am_v1_e h
    obtain ⟨v, r, rfl, h1, h⟩ := h
    exact lv_pop hx hb hd h1 (hk _ h p l e R s m args below meth c D dA A H locs ls X0 hL hn hP hD hS)
  | dup_x1 =>
    have hd : decode E.1.2.1 pc = .ok (.dup_x1, 1) := am_hd hd0 (by show (1 : Nat) ≠ 0; decide)
    replace h := am_v1_e h
    obtain ⟨v, r, rfl, h1, h⟩ := h
    replace h := am_v1_e h
    obtain ⟨u, r, rfl, h2, h⟩ := h
    exact lv_dup_x1 hx hb hd h1 h2 (hk _ h p l e R s m args below meth c D dA A H locs ls X0 hL hn hP hD hS)
  | dup_x2 =>
    have hd : decode E.1.2.1 pc = .ok (.dup_x2, 1) := am_hd hd0 (by show (1 : Nat) ≠ 0; decide)
    replace h := am_v1_e h
    obtain ⟨v, r, rfl, h1, h⟩ := h
    replace h := am_v1_e h
    obtain ⟨u, r, rfl, h2, h⟩ := h
    replace h := am_v1_e h
    obtain ⟨t, r, rfl, h3, h⟩ := h
    exact lv_dup_x2 hx hb hd h1 h2 h3 (hk _ h p l e R s m args below meth c D dA A H locs ls X0 hL hn hP hD hS)
  | dup2 =>
    have hd : decode E.1.2.1 pc = .ok (.dup2, 1) := am_hd hd0 (by show (1 : Nat) ≠ 0; decide)
    replace h := am_v1_e h
    obtain ⟨v, r, rfl, h1, h⟩ := h
    replace h := am_v1_e h
    obtain ⟨u, r, rfl, h2, h⟩ := h
    exact lv_dup2_11 hx hb hd h1 h2 (hk _ h p l e R s m args below meth c D dA A H locs ls X0 hL hn hP hD hS)
  | goto off =>
    have hd : decode E.1.2.1 pc = .ok (.goto off, 3) := am_hd hd0 (by show (3 : Nat) ≠ 0; decide)
    exact lv_goto hx hb hd (htg _ rfl) (hk _ h p l e R s m args below meth c D dA A H locs ls X0 hL hn hP hD hS)
  | ifCond cc off =>
    cases cc with
    | eq =>
      have hd : decode E.1.2.1 pc = .ok (.ifCond .eq off, 3) := am_hd hd0 (by show (3 : Nat) ≠ 0; decide)
      replace h := am_i1_e h
      obtain ⟨x, r, rfl, h⟩ := h
      exact lv_if_eq hx hb hd (htg _ rfl) (fun q => hk _ (h.1 q) p l e R s m args below meth c D dA A H locs ls X0 hL hn hP hD hS) (fun q => hk _ (h.2 q) p l e R s m args below meth c D dA A H locs ls X0 hL hn hP hD hS)
    | ne =>
      have hd : decode E.1.2.1 pc = .ok (.ifCond .ne off, 3) := am_hd hd0 (by show (3 : Nat) ≠ 0; decide)
      replace h := am_i1_e h
      obtain ⟨x, r, rfl, h⟩ := h
      exact lv_if_ne hx hb hd (htg _ rfl) (fun q => hk _ (h.2 q) p l e R s m args below meth c D dA A H locs ls X0 hL hn hP hD hS) (fun q => hk _ (h.1 q) p l e R s m args below meth c D dA A H locs ls X0 hL hn hP hD hS)
    | lt =>
      have hd : decode E.1.2.1 pc = .ok (.ifCond .lt off, 3) := am_hd hd0 (by show (3 : Nat) ≠ 0; decide)
      replace h := am_i1_e h
      obtain ⟨x, r, rfl, h⟩ := h
      exact lv_if_lt hx hb hd (htg _ rfl) (fun q => hk _ (h.1 q) p l e R s m args below meth c D dA A H locs ls X0 hL hn hP hD hS) (fun q => hk _ (h.2 q) p l e R s m args below meth c D dA A H locs ls X0 hL hn hP hD hS)
    | ge =>
      have hd : decode E.1.2.1 pc = .ok (.ifCond .ge off, 3) := am_hd hd0 (by show (3 : Nat) ≠ 0; decide)
      replace h := am_i1_e h
      obtain ⟨x, r, rfl, h⟩ := h
      exact lv_if_ge hx hb hd (htg _ rfl) (fun q => hk _ (h.1 q) p l e R s m args below meth c D dA A H locs ls X0 hL hn hP hD hS) (fun q => hk _ (h.2 q) p l e R s m args below meth c D dA A H locs ls X0 hL hn hP hD hS)
    | gt =>
      have hd : decode E.1.2.1 pc = .ok (.ifCond .gt off, 3) := am_hd hd0 (by show (3 : Nat) ≠ 0; decide)
      replace h := am_i1_e h
      obtain ⟨x, r, rfl, h⟩ := h
      exact lv_if_gt hx hb hd (htg _ rfl) (fun q => hk _ (h.1 q) p l e R s m args below meth c D dA A H locs ls X0 hL hn hP hD hS) (fun q => hk _ (h.2 q) p l e R s m args below meth c D dA A H locs ls X0 hL hn hP hD hS)
    | le =>
      have hd : decode E.1.2.1 pc = .ok (.ifCond .le off, 3) := am_hd hd0 (by show (3 : Nat) ≠ 0; decide)
      replace h := am_i1_e h
      obtain ⟨x, r, rfl, h⟩ := h
      exact lv_if_le hx hb hd (htg _ rfl) (fun q => hk _ (h.1 q) p l e R s m args below meth c D dA A H locs ls X0 hL hn hP hD hS) (fun q => hk _ (h.2 q) p l e R s m args below meth c D dA A H locs ls X0 hL hn hP hD hS)
  | if_icmp cc off =>
    cases cc with
    | eq =>
      have hd : decode E.1.2.1 pc = .ok (.if_icmp .eq off, 3) := am_hd hd0 (by show (3 : Nat) ≠ 0; decide)
      replace h := am_i2_e h
      obtain ⟨x, y, r, rfl, h⟩ := h
      exact lv_icmp_eq hx hb hd (htg _ rfl) (fun q => hk _ (h.1 q) p l e R s m args below meth c D dA A H locs ls X0 hL hn hP hD hS) (fun q => hk _ (h.2 q) p l e R s m args below meth c D dA A H locs ls X0 hL hn hP hD hS)
    | ne =>
      have hd : decode E.1.2.1 pc = .ok (.if_icmp .ne off, 3) := am_hd hd0 (by show (3 : Nat) ≠ 0; decide)
      replace h := am_i2_e h
      obtain ⟨x, y, r, rfl, h⟩ := h
      exact lv_icmp_ne hx hb hd (htg _ rfl) (fun q => hk _ (h.2 q) p l e R s m args below meth c D dA A H locs ls X0 hL hn hP hD hS) (fun q => hk _ (h.1 q) p l e R s m args below meth c D dA A H locs ls X0 hL hn hP hD hS)
    | lt =>
      have hd : decode E.1.2.1 pc = .ok (.if_icmp .lt off, 3) := am_hd hd0 (by show (3 : Nat) ≠ 0; decide)
      replace h := am_i2_e h
      obtain ⟨x, y, r, rfl, h⟩ := h
      exact lv_icmp_lt hx hb hd (htg _ rfl) (fun q => hk _ (h.1 q) p l e R s m args below meth c D dA A H locs ls X0 hL hn hP hD hS) (fun q => hk _ (h.2 q) p l e R s m args below meth c D dA A H locs ls X0 hL hn hP hD hS)
    | ge =>
      have hd : decode E.1.2.1 pc = .ok (.if_icmp .ge off, 3) := am_hd hd0 (by show (3 : Nat) ≠ 0; decide)
      replace h := am_i2_e h
      obtain ⟨x, y, r, rfl, h⟩ := h
      exact lv_icmp_ge hx hb hd (htg _ rfl) (fun q => hk _ (h.1 q) p l e R s m args below meth c D dA A H locs ls X0 hL hn hP hD hS) (fun q => hk _ (h.2 q) p l e R s m args below meth c D dA A H locs ls X0 hL hn hP hD hS)
    | gt =>
      have hd : decode E.1.2.1 pc = .ok (.if_icmp .gt off, 3) := am_hd hd0 (by show (3 : Nat) ≠ 0; decide)
      replace h := am_i2_e h
      obtain ⟨x, y, r, rfl, h⟩ := h
      exact lv_icmp_gt hx hb hd (htg _ rfl) (fun q => hk _ (h.1 q) p l e R s m args below meth c D dA A H locs ls X0 hL hn hP hD hS) (fun q => hk _ (h.2 q) p l e R s m args below meth c D dA A H locs ls X0 hL hn hP hD hS)
    | le =>
      have hd : decode E.1.2.1 pc = .ok (.if_icmp .le off, 3) := am_hd hd0 (by show (3 : Nat) ≠ 0; decide)
      replace h := am_i2_e h
      obtain ⟨x, y, r, rfl, h⟩ := h
      exact lv_icmp_le hx hb hd (htg _ rfl) (fun q => hk _ (h.1 q) p l e R s m args below meth c D dA A H locs ls X0 hL hn hP hD hS) (fun q => hk _ (h.2 q) p l e R s m args below meth c D dA A H locs ls X0 hL hn hP hD hS)
  | getfield idx =>
    have hd : decode E.1.2.1 pc = .ok (.getfield idx, 3) := am_hd hd0 (by show (3 : Nat) ≠ 0; decide)
    replace h := am_r1_e h
    obtain ⟨a, r, rfl, h⟩ := h
    replace h := am_wo_e h
    obtain ⟨q, a', ci, fs, hw, rfl, h⟩ := h
    cases hf : E.2.2.1 idx ci with
    | none => rw [hf] at h; exact False.elim h
    | some f =>
      rw [hf] at h
      try dsimp only at h
      cases hv : fs[f]? with
      | none => rw [hv] at h; exact False.elim h
      | some v =>
        rw [hv] at h
        obtain ⟨C, T, N, ref, ty0, g1, g2, g3, g4, g5, g6, g7⟩ := hE.2.1 idx ci f hf
        have hsame : ∀ x, s.fieldFound? (T f).1 (T f).2.1 (T f).2.2.1 = some x → s.fieldFound? ref (T f).2.1 (T f).2.2.1 = some x := by
          rcases g7 with rfl | g7
          · exact fun _ z => z
          · exact fun x z => u_same (hts _ g7) x z
        rcases g6 with g6 | ⟨host, g6, g6n⟩
        · exact va_get hx hb hts g3 hown hK hP q (am_re_at hw) g1 f g2 (hts _ g6) hsame hv hd (hk _ h p l e R s m args below meth c D dA A H locs ls X0 hL hn hP hD hS)
        · exact va_getN hx hb hts g3 hown hK hP q (am_re_at hw) g1 f g2 (va_Nw.use rfl (hN _ g6)) hsame hv hd (hk _ h p l e R s m args below meth c D dA A H locs ls X0 hL hn hP hD hS)
  | putfield idx =>
    have hd : decode E.1.2.1 pc = .ok (.putfield idx, 3) := am_hd hd0 (by show (3 : Nat) ≠ 0; decide)
    replace h := am_vr_e h
    obtain ⟨v, a, r, rfl, h⟩ := h
    replace h := am_wo_e h
    obtain ⟨q, a', ci, fs, hw, rfl, h⟩ := h
    cases hf : E.2.2.1 idx ci with
    | none => rw [hf] at h; exact False.elim h
    | some f =>
      rw [hf] at h
      obtain ⟨hfl, h⟩ := h
      obtain ⟨C, T, N, ref, ty0, g1, g2, g3, g4, g5, g6, g7⟩ := hE.2.1 idx ci f hf
      have hsame : ∀ x, s.fieldFound? (T f).1 (T f).2.1 (T f).2.2.1 = some x → s.fieldFound? ref (T f).2.1 (T f).2.2.1 = some x := by
        rcases g7 with rfl | g7
        · exact fun _ z => z
        · exact fun x z => u_same (hts _ g7) x z
      cases hty : am_ft P ci f with
      | none => rw [hty] at h; exact False.elim h
      | some tb =>
        obtain ⟨ty, b⟩ := tb
        rw [hty] at h
        cases b with
        | true =>
          obtain ⟨⟨hi1, hi2⟩, h⟩ := h
          replace h := am_fit_e h
          obtain ⟨hn1, hn2, h⟩ := h
          obtain ⟨f1, f2⟩ := am_ft_e g1 hty
          rcases g6 with g6 | ⟨host, g6, g6n⟩
          · refine va_putF hx hb hts g3 ty0 g4 g5 hown hK hP hD hS q (am_re_at hw) g1 f g2 (hts _ g6) hsame f2 (hnm.trans hi1) (hi2 _ g1) f1 hn1 hn2 hfl hd (fun H1 locs1 hP1 hD1 hS1 => ?_)
            have e1 : (am_re dA ws).set q (a, .inr (ci, fs.set f v)) = am_re dA (ws.set q (a, .inr (ci, fs.set f v))) := am_re_set (e := .inr (ci, fs.set f v))
            rw [e1] at hP1 hD1
            exact hk _ h p l e R s m args below meth c D dA A H1 locs1 ls X0 hL hn hP1 hD1 hS1
          · exact absurd (hi2 _ g1) g6n
        | false =>
          replace h := am_fit_e h
          obtain ⟨hn1, hn2, h⟩ := h
          obtain ⟨f1, f2⟩ := am_ft_e g1 hty
          rcases g6 with g6 | ⟨host, g6, g6n⟩
          · refine va_put hx hb hts g3 ty0 g4 g5 hown hK hP hD hS q (am_re_at hw) g1 f g2 (hts _ g6) hsame f2 f1 hn1 hn2 hfl hd (fun H1 locs1 hP1 hD1 hS1 => ?_)
            have e1 : (am_re dA ws).set q (a, .inr (ci, fs.set f v)) = am_re dA (ws.set q (a, .inr (ci, fs.set f v))) := am_re_set (e := .inr (ci, fs.set f v))
            rw [e1] at hP1 hD1
            exact hk _ h p l e R s m args below meth c D dA A H1 locs1 ls X0 hL hn hP1 hD1 hS1
          · refine va_putN hx hb hts g3 ty0 g4 g5 hown hK hP hD hS q (am_re_at hw) g1 f g2 (va_Nw.use rfl (hN _ g6)) hsame f2 f1 hn1 hn2 hfl hd (fun H1 locs1 hP1 hD1 hS1 => ?_)
            have e1 : (am_re dA ws).set q (a, .inr (ci, fs.set f v)) = am_re dA (ws.set q (a, .inr (ci, fs.set f v))) := am_re_set (e := .inr (ci, fs.set f v))
            rw [e1] at hP1 hD1
            exact hk _ h p l e R s m args below meth c D dA A H1 locs1 ls X0 hL hn hP1 hD1 hS1
  | iaload =>
    have hd : decode E.1.2.1 pc = .ok (.iaload, 1) := am_hd hd0 (by show (1 : Nat) ≠ 0; decide)
    replace h := am_ir_e h
    obtain ⟨i, a, r, rfl, h⟩ := h
    cases hh : hint pc with
    | nil =>
      rw [hh] at h
      obtain ⟨rfl, hin, h⟩ := h
      rcases ho with ho | ⟨ho1, ho2, ho3⟩
      · rw [ho] at hin
        exact absurd (Or.inr (Nat.zero_le _)) hin
      · exact va_sld hx hb ho1 ho2 ho3 hS hin hd (hk _ h p l e R s m args below meth c D dA A H locs ls X0 hL hn hP hD hS)
    | cons q0 qs =>
      rw [hh] at h
      try dsimp only at h
      replace h := am_wi_e h
      obtain ⟨q, a', n, g, hw, rfl, hin, h⟩ := h
      exact va_iald hx hb hK hP q 0 (am_re_at hw) (am_tys_at hT.1) hin hd (hk _ h p l e R s m args below meth c D dA A H locs ls X0 hL hn hP hD hS)
  | iastore =>
    have hd : decode E.1.2.1 pc = .ok (.iastore, 1) := am_hd hd0 (by show (1 : Nat) ≠ 0; decide)
    replace h := am_iir_e h
    obtain ⟨x, i, a, r, rfl, h⟩ := h
    replace h := am_wi_e h
    obtain ⟨q, a', n, g, hw, rfl, hin, h⟩ := h
    refine va_iast hx hb hK hP hD hS q 0 (am_re_at hw) (am_tys_at hT.1) hin hd (fun H1 locs1 hP1 hD1 hS1 => ?_)
    have e1 : (am_re dA ws).set q (a, .inl (dA 0, n, .inl (upd g i.toNatClampNeg x))) = am_re dA (ws.set q (a, .inl (0, n, .inl (upd g i.toNatClampNeg x)))) := am_re_set (e := .inl (0, n, .inl (upd g i.toNatClampNeg x)))
    rw [e1] at hP1 hD1
    exact hk _ h p l e R s m args below meth c D dA A H1 locs1 ls X0 hL hn hP1 hD1 hS1
  | laload =>
    have hd : decode E.1.2.1 pc = .ok (.laload, 1) := am_hd hd0 (by show (1 : Nat) ≠ 0; decide)
    replace h := am_ir_e h
    obtain ⟨i, a, r, rfl, h⟩ := h
    replace h := am_wl_e h
    obtain ⟨q, a', n, g, hw, rfl, hin, h⟩ := h
    exact va_lald hx hb hK hP q 3 (am_re_at hw) (am_tys_at hT.2.2.2) hin hd (hk _ h p l e R s m args below meth c D dA A H locs ls X0 hL hn hP hD hS)
  | lastore =>
    have hd : decode E.1.2.1 pc = .ok (.lastore, 1) := am_hd hd0 (by show (1 : Nat) ≠ 0; decide)
    replace h := am_lir_e h
    obtain ⟨x, i, a, r, rfl, h⟩ := h
    replace h := am_wl_e h
    obtain ⟨q, a', n, g, hw, rfl, hin, h⟩ := h
    refine va_last hx hb hK hP hD hS q 3 (am_re_at hw) (am_tys_at hT.2.2.2) hin hd (fun H1 locs1 hP1 hD1 hS1 => ?_)
    have e1 : (am_re dA ws).set q (a, .inl (dA 3, n, .inr (.inl (vp_updL g i.toNatClampNeg x)))) = am_re dA (ws.set q (a, .inl (3, n, .inr (.inl (vp_updL g i.toNatClampNeg x))))) := am_re_set (e := .inl (3, n, .inr (.inl (vp_updL g i.toNatClampNeg x))))
    rw [e1] at hP1 hD1
    exact hk _ h p l e R s m args below meth c D dA A H1 locs1 ls X0 hL hn hP1 hD1 hS1
  | aaload =>
    have hd : decode E.1.2.1 pc = .ok (.aaload, 1) := am_hd hd0 (by show (1 : Nat) ≠ 0; decide)
    replace h := am_ir_e h
    obtain ⟨i, a, r, rfl, h⟩ := h
    replace h := am_wr_e h
    obtain ⟨q, a', t, n, C, g, hw, hC, rfl, hin, b, hg, h⟩ := h
    refine va_aldq hx hb hK hP q t (am_re_at hw) (am_tys_at hC) hin hd ?_
    rw [hg]
    exact hk _ h p l e R s m args below meth c D dA A H locs ls X0 hL hn hP hD hS
  | baload =>
    have hd : decode E.1.2.1 pc = .ok (.baload, 1) := am_hd hd0 (by show (1 : Nat) ≠ 0; decide)
    replace h := am_ir_e h
    obtain ⟨i, a, r, rfl, h⟩ := h
    replace h := am_wi_e h
    obtain ⟨q, a', n, g, hw, rfl, hin, h⟩ := h
    exact va_zald hx hb hK hP q 2 (am_re_at hw) (am_tys_at hT.2.2.1) hin hd (hk _ h p l e R s m args below meth c D dA A H locs ls X0 hL hn hP hD hS)
  | bastore =>
    have hd : decode E.1.2.1 pc = .ok (.bastore, 1) := am_hd hd0 (by show (1 : Nat) ≠ 0; decide)
    replace h := am_iir_e h
    obtain ⟨x, i, a, r, rfl, h⟩ := h
    replace h := am_wi_e h
    obtain ⟨q, a', n, g, hw, rfl, hin, h⟩ := h
    refine va_zast hx hb hK hP hD hS q 2 (am_re_at hw) (am_tys_at hT.2.2.1) hin hd (fun H1 locs1 hP1 hD1 hS1 => ?_)
    have e1 : (am_re dA ws).set q (a, .inl (dA 2, n, .inl (upd g i.toNatClampNeg (vp_nar .boolean x)))) = am_re dA (ws.set q (a, .inl (2, n, .inl (upd g i.toNatClampNeg (vp_nar .boolean x))))) := am_re_set (e := .inl (2, n, .inl (upd g i.toNatClampNeg (vp_nar .boolean x))))
    rw [e1] at hP1 hD1
    exact hk _ h p l e R s m args below meth c D dA A H1 locs1 ls X0 hL hn hP1 hD1 hS1
  | aastore =>
    have hd : decode E.1.2.1 pc = .ok (.aastore, 1) := am_hd hd0 (by show (1 : Nat) ≠ 0; decide)
    replace h := am_rir_e h
    obtain ⟨x, i, a, r, rfl, h⟩ := h
    try dsimp only at h
    split at h
    · replace h := am_wr_e h
      obtain ⟨q, a', t, n, C, g, hw, hC, rfl, hin, h⟩ := h
      replace h := am_wo_e h
      obtain ⟨q1, x', ci, fs, hw1, rfl, hsub, h⟩ := h
      have e1 : (am_re dA ws).set q (a, .inl (dA t, n, .inr (.inr (.inr (.inr (va_up g i.toNatClampNeg (some x))))))) = am_re dA (ws.set q (a, .inl (t, n, .inr (.inr (.inr (.inr (va_up g i.toNatClampNeg (some x)))))))) := am_re_set (e := .inl (t, n, .inr (.inr (.inr (.inr (va_up g i.toNatClampNeg (some x)))))))
      rcases hsub with ⟨T, N, hc1⟩ | ⟨C', T, N, hc1, hca⟩
      · refine va_astq hx hb hK hP hD hS q t q1 ci (r := (C, T, N)) (am_re_at hw) (am_tys_at hC) (am_re_at hw1) hc1 hin hd (fun H1 locs1 hP1 hD1 hS1 => ?_)
        rw [e1] at hP1 hD1
        exact hk _ h p l e R s m args below meth c D dA A H1 locs1 ls X0 hL hn hP1 hD1 hS1
      · refine va_astqO hx hb hK hP hD hS q t q1 ci (r := (C', T, N)) (am_re_at hw) (am_tys_at hC) (hN _ hca) (am_re_at hw1) hc1 hin hd (fun H1 locs1 hP1 hD1 hS1 => ?_)
        rw [e1] at hP1 hD1
        exact hk _ h p l e R s m args below meth c D dA A H1 locs1 ls X0 hL hn hP1 hD1 hS1
    · exact False.elim h
  | tableswitch dflt lo hi offs =>
    obtain ⟨len, hd, -⟩ := hd0
    replace h := am_i1_e h
    obtain ⟨x, r, rfl, hhi, h⟩ := h
    rcases am_sw_e _ _ h with ⟨j, o', h1, h2, h3, h4⟩ | ⟨h1, h3, h4⟩
    · have hj : j < offs.toList.length := (List.getElem?_eq_some_iff.mp h1).1
      refine lv_tableIn hx hb (off := o') (tgt := ((pc : Int) + o').toNat) hd (by omega) (by omega) ?_ (by omega) (hk _ h4 p l e R s m args below meth c D dA A H locs ls X0 hL hn hP hD hS)
      rw [show (x.toInt - lo).toNat = j by omega, ← Array.getElem?_toList]
      exact h1
    · exact lv_tableOut hx hb (tgt := ((pc : Int) + dflt).toNat) hd (by omega) (by omega) (hk _ h4 p l e R s m args below meth c D dA A H locs ls X0 hL hn hP hD hS)
  | arraylength =>
    have hd : decode E.1.2.1 pc = .ok (.arraylength, 1) := am_hd hd0 (by show (1 : Nat) ≠ 0; decide)
    replace h := am_r1_e h
    obtain ⟨a, r, rfl, h⟩ := h
    cases hh : hint pc with
    | nil =>
      rw [hh] at h
      obtain ⟨rfl, h0, h⟩ := h
      rcases ho with ho | ⟨ho1, ho2, ho3⟩
      · exact absurd ho h0
      · exact va_slen hx hb ho1 ho2 ho3 hS hd (hk _ h p l e R s m args below meth c D dA A H locs ls X0 hL hn hP hD hS)
    | cons q0 qs =>
      rw [hh] at h
      try dsimp only at h
      replace h := am_wa_e h
      obtain ⟨q, a', t, x, ty, hw, hC, rfl, h⟩ := h
      exact va_alen hx hb hK hP q t (am_re_at hw) (am_tys_at hC) rfl hd (hk _ h p l e R s m args below meth c D dA A H locs ls X0 hL hn hP hD hS)
  | ireturn =>
    have hd : decode E.1.2.1 pc = .ok (.ireturn, 1) := am_hd hd0 (by show (1 : Nat) ≠ 0; decide)
    try dsimp only at h
    split at h
    · rename_i x hbl hrt
      rw [Bool.and_eq_true] at hbl
      refine W.widen (Nat.le_of_ble_eq_true hbl.1) (Nat.le_of_ble_eq_true hbl.2) ?_
      rw [hrt] at hr
      exact W.iret hx hb hr (hret _ h) hS.2.2 hd hlk
    · rename_i x hbl hrt
      rw [Bool.and_eq_true] at hbl
      refine W.widen (Nat.le_of_ble_eq_true hbl.1) (Nat.le_of_ble_eq_true hbl.2) ?_
      rw [hrt] at hr
      exact W.zret hx hb hr (am_bool h.1).1 (hret _ h.2) hS.2.2 hd hlk
    · exact False.elim h
  | lreturn =>
    have hd : decode E.1.2.1 pc = .ok (.lreturn, 1) := am_hd hd0 (by show (1 : Nat) ≠ 0; decide)
    try dsimp only at h
    split at h
    · rename_i x hbl hrt
      rw [Bool.and_eq_true] at hbl
      refine W.widen (Nat.le_of_ble_eq_true hbl.1) (Nat.le_of_ble_eq_true hbl.2) ?_
      rw [hrt] at hr
      exact W.lret hx hb hr (hret _ h) hS.2.2 hd hlk
    · exact False.elim h
  | return_ =>
    have hd : decode E.1.2.1 pc = .ok (.return_, 1) := am_hd hd0 (by show (1 : Nat) ≠ 0; decide)
    try dsimp only at h
    split at h
    · rename_i hbl hrt
      rw [Bool.and_eq_true] at hbl
      refine W.widen (Nat.le_of_ble_eq_true hbl.1) (Nat.le_of_ble_eq_true hbl.2) ?_
      rw [hrt] at hr
      exact W.vret hx hb hr (hret _ h) hS.2.2 hd hlk
    · exact False.elim h
  | invokestatic idx =>
    have hd : decode E.1.2.1 pc = .ok (.invokestatic idx, 3) := am_hd hd0 (by show (3 : Nat) ≠ 0; decide)
    exact am_cs_ok hg hE X0 hL hn hP hD hS hd (fun r rest ws' ce' sl' h' => hk _ h') h
  | invokevirtual idx =>
    have hd : decode E.1.2.1 pc = .ok (.invokevirtual idx, 3) := am_hd hd0 (by show (3 : Nat) ≠ 0; decide)
    exact am_cv_ok (v := true) hg hE X0 hL hn hP hD hS hd (fun r rest ws' ce' sl' h' => hk _ h') h
  | invokespecial idx =>
    have hd : decode E.1.2.1 pc = .ok (.invokespecial idx, 3) := am_hd hd0 (by show (3 : Nat) ≠ 0; decide)
    exact am_cv_ok (v := false) hg hE X0 hL hn hP hD hS hd (fun r rest ws' ce' sl' h' => hk _ h') h
  | new idx =>
    have hd : decode E.1.2.1 pc = .ok (.new idx, 3) := am_hd hd0 (by show (3 : Nat) ≠ 0; decide)
    exact am_new_ok hE X0 hL hn hP hD hS hd hk h
  | newarray ty =>
    cases ty with
    | int =>
      have hd : decode E.1.2.1 pc = .ok (.newarray .int, 2) := am_hd hd0 (by show (2 : Nat) ≠ 0; decide)
      exact am_newi_ok hT X0 hL hn hP hD hS hd hk h
    | boolean =>
      have hd : decode E.1.2.1 pc = .ok (.newarray .boolean, 2) := am_hd hd0 (by show (2 : Nat) ≠ 0; decide)
      exact am_newz_ok hT X0 hL hn hP hD hS hd hk h
    | long =>
      have hd : decode E.1.2.1 pc = .ok (.newarray .long, 2) := am_hd hd0 (by show (2 : Nat) ≠ 0; decide)
      exact am_newl_ok hT X0 hL hn hP hD hS hd hk h
    | _ => exact False.elim h
  | anewarray idx =>
    have hd : decode E.1.2.1 pc = .ok (.anewarray idx, 3) := am_hd hd0 (by show (3 : Nat) ≠ 0; decide)
    exact am_newr_ok X0 hL hn hP hD hS hd hk h
  | _ => exact False.elim h
