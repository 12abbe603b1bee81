def k_F_init : List (List (Option (ClassFile.Instr × Nat))) := [[some (.aload_n 0, 0), some (.invokespecial 3, 0), none, none, some (.return_, 0), none, none, none, none, none, none, none, none, none, none, none]]
abbrev e_F_init : am_E := am_mk m_F_init k_F_init tf_F ti_F tl_F tc_F tn_F
theorem ok_F_init : am_ok am_p e_F_init := am_mk_ok (by decide +kernel) of_F oi_F ol_F oc_F on_F
def k_F_canSay : List (List (Option (ClassFile.Instr × Nat))) := [[some (.iconst 1, 0), some (.ireturn, 0), none, none, none, none, none, none, none, none, none, none, none, none, none, none]]
abbrev e_F_canSay : am_E := am_mk m_F_canSay k_F_canSay tf_F ti_F tl_F tc_F tn_F
theorem ok_F_canSay : am_ok am_p e_F_canSay := am_mk_ok (by decide +kernel) of_F oi_F ol_F oc_F on_F
def k_F_storesHigherFirst : List (List (Option (ClassFile.Instr × Nat))) := [[some (.iconst 0, 0), some (.ireturn, 0), none, none, none, none, none, none, none, none, none, none, none, none, none, none]]
abbrev e_F_storesHigherFirst : am_E := am_mk m_F_storesHigherFirst k_F_storesHigherFirst tf_F ti_F tl_F tc_F tn_F
theorem ok_F_storesHigherFirst : am_ok am_p e_F_storesHigherFirst := am_mk_ok (by decide +kernel) of_F oi_F ol_F oc_F on_F
def k_F_takeAddends : List (List (Option (ClassFile.Instr × Nat))) := [[some (.iconst 0, 0), some (.istore_n 2, 0), some (.iload_n 2, 0), some (.aload_n 1, 0), some (.getfield 9, 0), none, none, some (.if_icmp .ge 98, 105), none, none, some (.aload_n 1, 0), some (.iload_n 2, 0), some (.invokevirtual 15, 0), none, none, some (.istore_n 3, 0)],
  [some (.aload_n 1, 0), some (.getfield 19, 0), none, none, some (.aload_n 0, 0), some (.invokevirtual 23, 0), none, none, some (.ifCond .eq 9, 33), none, none, some (.iload_n 3, 0), some (.iconst 1, 0), some (.iadd, 0), some (.goto 4, 34), none],
  [none, some (.iload_n 3, 0), some (.iaload, 0), some (.istore 4, 0), none, some (.aload_n 1, 0), some (.getfield 19, 0), none, none, some (.aload_n 0, 0), some (.invokevirtual 23, 0), none, none, some (.ifCond .eq 7, 52), none, none],
  [some (.iload_n 3, 0), some (.goto 6, 55), none, none, some (.iload_n 3, 0), some (.iconst 1, 0), some (.iadd, 0), some (.iaload, 0), some (.istore 5, 0), none, some (.aload_n 1, 0), some (.getfield 29, 0), none, none, some (.iload_n 2, 0), some (.iload 5, 0)],
  [none, some (.sipush 256, 0), none, none, some (.imul, 0), some (.iload 4, 0), none, some (.iadd, 0), some (.aload_n 0, 0), some (.aload_n 1, 0), some (.iload_n 2, 0), some (.invokevirtual 32, 0), none, none, some (.isub, 0), some (.ldc 36, 0)],
  [none, some (.iand, 0), some (.iastore, 0), some (.aload_n 1, 0), some (.getfield 19, 0), none, none, some (.iload_n 3, 0), some (.iconst 0, 0), some (.iastore, 0), some (.aload_n 1, 0), some (.getfield 19, 0), none, none, some (.iload_n 3, 0), some (.iconst 1, 0)],
  [some (.iadd, 0), some (.iconst 0, 0), some (.iastore, 0), some (.iinc 2 1, 0), none, none, some (.goto (-100), 2), none, none, some (.return_, 0), none, none, none, none, none, none]]
abbrev e_F_takeAddends : am_E := am_mk m_F_takeAddends k_F_takeAddends tf_F ti_F tl_F tc_F tn_F
theorem ok_F_takeAddends : am_ok am_p e_F_takeAddends := am_mk_ok (by decide +kernel) of_F oi_F ol_F oc_F on_F
def k_F_printContent : List (List (Option (ClassFile.Instr × Nat))) := [[some (.aload_n 2, 0), some (.getfield 37, 0), none, none, some (.istore_n 3, 0), some (.iconst 0, 0), some (.istore 4, 0), none, some (.iload 4, 0), none, some (.aload_n 1, 0), some (.invokevirtual 42, 0), none, none, some (.if_icmp .ge 20, 34), none],
  [none, some (.aload_n 2, 0), some (.aload_n 1, 0), some (.getfield 19, 0), none, none, some (.iload 4, 0), none, some (.iaload, 0), some (.invokevirtual 46, 0), none, none, some (.iinc 4 1, 0), none, none, some (.goto (-23), 8)],
  [none, none, some (.iconst 0, 0), some (.istore 4, 0), none, some (.iload 4, 0), none, some (.aload_n 1, 0), some (.getfield 9, 0), none, none, some (.if_icmp .ge 86, 129), none, none, some (.iload_n 3, 0), some (.aload_n 1, 0)],
  [some (.iload 4, 0), none, some (.invokevirtual 15, 0), none, none, some (.iadd, 0), some (.istore 5, 0), none, some (.aload_n 1, 0), some (.getfield 29, 0), none, none, some (.iload 4, 0), none, some (.iaload, 0), some (.aload_n 0, 0)],
  [some (.aload_n 1, 0), some (.iload 4, 0), none, some (.invokevirtual 32, 0), none, none, some (.iadd, 0), some (.ldc 36, 0), none, some (.iand, 0), some (.istore 6, 0), none, some (.aload_n 2, 0), some (.aload_n 0, 0), some (.invokevirtual 23, 0), none],
  [none, some (.ifCond .eq 10, 91), none, none, some (.iload 5, 0), none, some (.iconst 1, 0), some (.iadd, 0), some (.goto 5, 93), none, none, some (.iload 5, 0), none, some (.iload 6, 0), none, some (.invokevirtual 50, 0)],
  [none, none, some (.aload_n 2, 0), some (.aload_n 0, 0), some (.invokevirtual 23, 0), none, none, some (.ifCond .eq 8, 111), none, none, some (.iload 5, 0), none, some (.goto 7, 115), none, none, some (.iload 5, 0)],
  [none, some (.iconst 1, 0), some (.iadd, 0), some (.iload 6, 0), none, some (.bipush 8, 0), none, some (.ishr, 0), some (.invokevirtual 50, 0), none, none, some (.iinc 4 1, 0), none, none, some (.goto (-89), 37), none],
  [none, some (.return_, 0), none, none, none, none, none, none, none, none, none, none, none, none, none, none]]
abbrev e_F_printContent : am_E := am_mk m_F_printContent k_F_printContent tf_F ti_F tl_F tc_F tn_F
theorem ok_F_printContent : am_ok am_p e_F_printContent := am_mk_ok (by decide +kernel) of_F oi_F ol_F oc_F on_F
def k_F_spellFromStrings : List (List (Option (ClassFile.Instr × Nat))) := [[some (.aload_n 0, 0), some (.aload_n 1, 0), some (.iload_n 2, 0), some (.bipush 6, 0), none, some (.invokevirtual 54, 0), none, none, some (.istore 4, 0), none, some (.iload_n 2, 0), some (.iload 4, 0), none, some (.iadd, 0), some (.iload_n 3, 0), some (.if_icmp .ge 18, 33)],
  [none, none, some (.aload_n 1, 0), some (.iload_n 2, 0), some (.iload 4, 0), none, some (.iadd, 0), some (.invokevirtual 58, 0), none, none, some (.ifCond .ne 7, 33), none, none, some (.iconst 1, 0), some (.goto 4, 34), none],
  [none, some (.iconst 0, 0), some (.istore 5, 0), none, some (.iload 5, 0), none, some (.ifCond .eq 8, 46), none, none, some (.iload 4, 0), none, some (.goto 4, 47), none, none, some (.iconst 0, 0), some (.ireturn, 0)]]
abbrev e_F_spellFromStrings : am_E := am_mk m_F_spellFromStrings k_F_spellFromStrings tf_F ti_F tl_F tc_F tn_F
theorem ok_F_spellFromStrings : am_ok am_p e_F_spellFromStrings := am_mk_ok (by decide +kernel) of_F oi_F ol_F oc_F on_F
def k_F_printName : List (List (Option (ClassFile.Instr × Nat))) := [[some (.aload_n 0, 0), some (.iload_n 1, 0), some (.aload_n 2, 0), some (.invokestatic 61, 0), none, none, some (.aload_n 2, 0), some (.iconst 0, 0), some (.invokevirtual 46, 0), none, none, some (.return_, 0), none, none, none, none]]
abbrev e_F_printName : am_E := am_mk m_F_printName k_F_printName tf_F ti_F tl_F tc_F tn_F
theorem ok_F_printName : am_ok am_p e_F_printName := am_mk_ok (by decide +kernel) of_F oi_F ol_F oc_F on_F
def k_F_printLetters : List (List (Option (ClassFile.Instr × Nat))) := [[some (.iconst 0, 0), some (.istore_n 3, 0), some (.iload_n 3, 0), some (.aload_n 0, 0), some (.getfield 65, 0), none, none, some (.iload_n 1, 0), some (.iaload, 0), some (.if_icmp .ge 27, 36), none, none, some (.aload_n 2, 0), some (.aload_n 0, 0), some (.getfield 68, 0), none],
  [none, some (.iload_n 1, 0), some (.bipush 6, 0), none, some (.imul, 0), some (.iload_n 3, 0), some (.iadd, 0), some (.iaload, 0), some (.bipush 97, 0), none, some (.iadd, 0), some (.invokevirtual 46, 0), none, none, some (.iinc 3 1, 0), none],
  [none, some (.goto (-31), 2), none, none, some (.return_, 0), none, none, none, none, none, none, none, none, none, none, none]]
abbrev e_F_printLetters : am_E := am_mk m_F_printLetters k_F_printLetters tf_F ti_F tl_F tc_F tn_F
theorem ok_F_printLetters : am_ok am_p e_F_printLetters := am_mk_ok (by decide +kernel) of_F oi_F ol_F oc_F on_F
