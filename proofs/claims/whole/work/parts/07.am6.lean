/-- walk on, up to n instructions, or to a stop -/
def am_ex (P : am_P) (o : am_O) (E : am_E) (d : Nat × Nat) (mc ms : Nat) (hint : Nat → List Nat) (Q : Option Value → va_W → Prop) (stop : Nat → Bool) (K : am_S → Prop) : Nat → am_S → Prop
  | 0, σ => K σ
  | n + 1, σ => match stop σ.1 with
    | true => K σ
    | false => am_st P o E d mc ms hint Q (am_ex P o E d mc ms hint Q stop K n) σ
theorem am_ex_ok {P : am_P} {o : am_O} {E : am_E} {d : Nat × Nat} {mc ms : Nat} {hint : Nat → List Nat} {Q : Option Value → va_W → Prop} {stop : Nat → Bool} {K : am_S → Prop} (hT : am_tc P) (hg : am_good P) (hE : am_ok P E) (hK : ∀ σ, K σ → am_G P o E.1 d mc ms Q σ) : ∀ (n : Nat) (σ : am_S), am_ex P o E d mc ms hint Q stop K n σ → am_G P o E.1 d mc ms Q σ
  | 0, σ, h => hK σ h
  | n + 1, σ, h => by
    unfold am_ex at h
    split at h
    · exact hK σ h
    · exact am_st_ok hT hg hE (am_ex_ok hT hg hE hK n) h
/-- one instruction, then on: at a loop's head -/
theorem am_go {P : am_P} {o : am_O} {E : am_E} {d : Nat × Nat} {mc ms : Nat} {Q : Option Value → va_W → Prop} {σ : am_S} (hint : Nat → List Nat) (stop : Nat → Bool) (n : Nat) (hT : am_tc P) (hg : am_good P) (hE : am_ok P E)
    (h : am_st P o E d mc ms hint Q (am_ex P o E d mc ms hint Q stop (am_G P o E.1 d mc ms Q) n) σ) : am_G P o E.1 d mc ms Q σ :=
  am_st_ok hT hg hE (am_ex_ok hT hg hE (fun _ z => z) n) h
