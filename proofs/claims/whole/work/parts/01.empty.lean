/-! EVIDENCE, no proof of the class: two words of tables_1 say opposite things of one method (a static method that a subclass calls by its own name): no state meets tables_1. -/
def tv_x : MethodName := ⟨"ObjectLinker$Format", "spellFromStrings", "(LObjectLinker$Unit;LObjectLinker$Tape;II)I"⟩
theorem tv_dec : Cond.declares tv_x ∈ tables_1 := List.mem_of_getElem? (i := 426) (by decide +kernel)
theorem tv_sta : Cond.static tv_x ∈ tables_1 := List.mem_of_getElem? (i := 427) (by decide +kernel)
/-- the launch's own class file doesn't say the first -/
theorem tv_says : launch0.says (.declares tv_x) = false := by decide +kernel
theorem tv_never {x : MethodName} {args : Array Value} {s : State} (h1 : (Cond.declares x).before args s = true) (h2 : (Cond.static x).before args s = true) : False := by
  obtain ⟨m, meth, hn, hm, hs, -⟩ := Cond.declares_spec h1
  have h3 := Cond.static_spec hn hm h2
  rw [hs] at h3
  cases h3
/-- no state meets the Statement's tables -/
theorem tv_empty {args : Array Value} {s : State} (h : ∀ w ∈ tables_1, w.before args s = true) : False := tv_never (h _ tv_dec) (h _ tv_sta)
