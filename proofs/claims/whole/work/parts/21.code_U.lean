def k_U_init : List (List (Option (ClassFile.Instr × Nat))) := [[some (.aload_n 0, 0), some (.invokespecial 3, 0), none, none, some (.aload_n 0, 0), some (.iconst 3, 0), some (.newarray .int, 0), none, some (.putfield 9, 0), none, none, some (.aload_n 0, 0), some (.bipush 80, 0), none, some (.newarray .int, 0), none],
  [some (.putfield 15, 0), none, none, some (.aload_n 0, 0), some (.bipush 8, 0), none, some (.newarray .int, 0), none, some (.putfield 18, 0), none, none, some (.aload_n 0, 0), some (.bipush 8, 0), none, some (.newarray .int, 0), none],
  [some (.putfield 21, 0), none, none, some (.aload_n 0, 0), some (.bipush 8, 0), none, some (.newarray .int, 0), none, some (.putfield 24, 0), none, none, some (.aload_n 0, 0), some (.bipush 8, 0), none, some (.newarray .int, 0), none],
  [some (.putfield 27, 0), none, none, some (.aload_n 0, 0), some (.bipush 48, 0), none, some (.newarray .int, 0), none, some (.putfield 30, 0), none, none, some (.aload_n 0, 0), some (.bipush 10, 0), none, some (.newarray .int, 0), none],
  [some (.putfield 33, 0), none, none, some (.aload_n 0, 0), some (.bipush 10, 0), none, some (.newarray .int, 0), none, some (.putfield 36, 0), none, none, some (.aload_n 0, 0), some (.bipush 10, 0), none, some (.newarray .int, 0), none],
  [some (.putfield 39, 0), none, none, some (.aload_n 0, 0), some (.bipush 10, 0), none, some (.newarray .int, 0), none, some (.putfield 42, 0), none, none, some (.aload_n 0, 0), some (.bipush 10, 0), none, some (.newarray .int, 0), none],
  [some (.putfield 45, 0), none, none, some (.return_, 0), none, none, none, none, none, none, none, none, none, none, none, none]]
abbrev e_U_init : am_E := am_mk m_U_init k_U_init tf_U ti_U tl_U tc_U tn_U
theorem ok_U_init : am_ok am_p e_U_init := am_mk_ok (by decide +kernel) of_U oi_U ol_U oc_U on_U
def k_U_begin : List (List (Option (ClassFile.Instr × Nat))) := [[some (.aload_n 0, 0), some (.iconst 0, 0), some (.putfield 48, 0), none, none, some (.aload_n 0, 0), some (.iconst 0, 0), some (.putfield 52, 0), none, none, some (.iload_n 1, 0), some (.iconst 0, 0), some (.bipush 40, 0), none, some (.invokestatic 55, 0), none],
  [none, some (.ifCond .eq 23, 40), none, none, some (.iload_n 2, 0), some (.iconst 0, 0), some (.bipush 40, 0), none, some (.invokestatic 55, 0), none, none, some (.ifCond .eq 13, 40), none, none, some (.iload_n 3, 0), some (.iconst 0, 0)],
  [some (.bipush 60, 0), none, some (.invokestatic 55, 0), none, none, some (.ifCond .ne 5, 42), none, none, some (.iconst 0, 0), some (.ireturn, 0), some (.aload_n 0, 0), some (.getfield 9, 0), none, none, some (.iconst 0, 0), some (.iload_n 1, 0)],
  [some (.iastore, 0), some (.aload_n 0, 0), some (.getfield 9, 0), none, none, some (.iconst 1, 0), some (.iload_n 2, 0), some (.iastore, 0), some (.aload_n 0, 0), some (.getfield 9, 0), none, none, some (.iconst 2, 0), some (.iload_n 3, 0), some (.iastore, 0), some (.iconst 1, 0)],
  [some (.ireturn, 0), none, none, none, none, none, none, none, none, none, none, none, none, none, none, none]]
abbrev e_U_begin : am_E := am_mk m_U_begin k_U_begin tf_U ti_U tl_U tc_U tn_U
theorem ok_U_begin : am_ok am_p e_U_begin := am_mk_ok (by decide +kernel) of_U oi_U ol_U oc_U on_U
def k_U_isWithin : List (List (Option (ClassFile.Instr × Nat))) := [[some (.iload_n 0, 0), some (.iload_n 1, 0), some (.if_icmp .lt 12, 14), none, none, some (.iload_n 0, 0), some (.iload_n 2, 0), some (.if_icmp .gt 7, 14), none, none, some (.iconst 1, 0), some (.goto 4, 15), none, none, some (.iconst 0, 0), some (.ireturn, 0)]]
abbrev e_U_isWithin : am_E := am_mk m_U_isWithin k_U_isWithin tf_U ti_U tl_U tc_U tn_U
theorem ok_U_isWithin : am_ok am_p e_U_isWithin := am_mk_ok (by decide +kernel) of_U oi_U ol_U oc_U on_U
def k_U_contentSize : List (List (Option (ClassFile.Instr × Nat))) := [[some (.aload_n 0, 0), some (.getfield 9, 0), none, none, some (.iconst 0, 0), some (.iaload, 0), some (.aload_n 0, 0), some (.getfield 9, 0), none, none, some (.iconst 1, 0), some (.iaload, 0), some (.iadd, 0), some (.ireturn, 0), none, none]]
abbrev e_U_contentSize : am_E := am_mk m_U_contentSize k_U_contentSize tf_U ti_U tl_U tc_U tn_U
theorem ok_U_contentSize : am_ok am_p e_U_contentSize := am_mk_ok (by decide +kernel) of_U oi_U ol_U oc_U on_U
def k_U_beginning : List (List (Option (ClassFile.Instr × Nat))) := [[some (.iload_n 1, 0), some (.ifCond .ne 7, 8), none, none, some (.iconst 0, 0), some (.goto 21, 26), none, none, some (.iload_n 1, 0), some (.iconst 1, 0), some (.if_icmp .ne 12, 22), none, none, some (.aload_n 0, 0), some (.getfield 9, 0), none],
  [none, some (.iconst 0, 0), some (.iaload, 0), some (.goto 7, 26), none, none, some (.aload_n 0, 0), some (.invokevirtual 59, 0), none, none, some (.ireturn, 0), none, none, none, none, none]]
abbrev e_U_beginning : am_E := am_mk m_U_beginning k_U_beginning tf_U ti_U tl_U tc_U tn_U
theorem ok_U_beginning : am_ok am_p e_U_beginning := am_mk_ok (by decide +kernel) of_U oi_U ol_U oc_U on_U
def k_U_takeContent : List (List (Option (ClassFile.Instr × Nat))) := [[some (.aload_n 0, 0), some (.iload_n 1, 0), some (.invokevirtual 63, 0), none, none, some (.istore 4, 0), none, some (.iconst 0, 0), some (.istore 5, 0), none, some (.iload 5, 0), none, some (.aload_n 0, 0), some (.getfield 9, 0), none, none],
  [some (.iload_n 1, 0), some (.iaload, 0), some (.if_icmp .ge 38, 56), none, none, some (.aload_n 2, 0), some (.iload_n 3, 0), some (.iload 5, 0), none, some (.iadd, 0), some (.invokevirtual 67, 0), none, none, some (.istore 6, 0), none, some (.iload 6, 0)],
  [none, some (.ifCond .ge 5, 38), none, none, some (.iconst 0, 0), some (.ireturn, 0), some (.aload_n 0, 0), some (.getfield 15, 0), none, none, some (.iload 4, 0), none, some (.iload 5, 0), none, some (.iadd, 0), some (.iload 6, 0)],
  [none, some (.iastore, 0), some (.iinc 5 1, 0), none, none, some (.goto (-43), 10), none, none, some (.iconst 1, 0), some (.ireturn, 0), none, none, none, none, none, none]]
abbrev e_U_takeContent : am_E := am_mk m_U_takeContent k_U_takeContent tf_U ti_U tl_U tc_U tn_U
theorem ok_U_takeContent : am_ok am_p e_U_takeContent := am_mk_ok (by decide +kernel) of_U oi_U ol_U oc_U on_U
def k_U_spell : List (List (Option (ClassFile.Instr × Nat))) := [[some (.aload_n 0, 0), some (.getfield 48, 0), none, none, some (.bipush 8, 0), none, some (.if_icmp .lt 5, 11), none, none, some (.iconst 0, 0), some (.ireturn, 0), some (.iconst 0, 0), some (.istore 4, 0), none, some (.iload 4, 0), none],
  [some (.iload_n 3, 0), some (.if_icmp .ge 60, 77), none, none, some (.iload 4, 0), none, some (.bipush 6, 0), none, some (.if_icmp .ge 53, 77), none, none, some (.aload_n 1, 0), some (.iload_n 2, 0), some (.iload 4, 0), none, some (.iadd, 0)],
  [some (.invokevirtual 67, 0), none, none, some (.bipush 97, 0), none, some (.bipush 122, 0), none, some (.invokestatic 55, 0), none, none, some (.ifCond .eq 35, 77), none, none, some (.aload_n 0, 0), some (.getfield 30, 0), none],
  [none, some (.aload_n 0, 0), some (.getfield 48, 0), none, none, some (.bipush 6, 0), none, some (.imul, 0), some (.iload 4, 0), none, some (.iadd, 0), some (.aload_n 1, 0), some (.iload_n 2, 0), some (.iload 4, 0), none, some (.iadd, 0)],
  [some (.invokevirtual 67, 0), none, none, some (.bipush 97, 0), none, some (.isub, 0), some (.iastore, 0), some (.iinc 4 1, 0), none, none, some (.goto (-60), 14), none, none, some (.iload 4, 0), none, some (.ireturn, 0)]]
abbrev e_U_spell : am_E := am_mk m_U_spell k_U_spell tf_U ti_U tl_U tc_U tn_U
theorem ok_U_spell : am_ok am_p e_U_spell := am_mk_ok (by decide +kernel) of_U oi_U ol_U oc_U on_U
def k_U_addSymbol : List (List (Option (ClassFile.Instr × Nat))) := [[some (.aload_n 0, 0), some (.getfield 48, 0), none, none, some (.bipush 8, 0), none, some (.if_icmp .ge 24, 30), none, none, some (.iload_n 1, 0), some (.iconst 1, 0), some (.bipush 6, 0), none, some (.invokestatic 55, 0), none, none],
  [some (.ifCond .eq 14, 30), none, none, some (.aload_n 0, 0), some (.iload_n 2, 0), some (.iload_n 3, 0), some (.iload 4, 0), none, some (.invokevirtual 72, 0), none, none, some (.ifCond .ne 5, 32), none, none, some (.iconst 0, 0), some (.ireturn, 0)],
  [some (.aload_n 0, 0), some (.getfield 18, 0), none, none, some (.aload_n 0, 0), some (.getfield 48, 0), none, none, some (.iload_n 2, 0), some (.iastore, 0), some (.aload_n 0, 0), some (.getfield 21, 0), none, none, some (.aload_n 0, 0), some (.getfield 48, 0)],
  [none, none, some (.iload_n 3, 0), some (.iastore, 0), some (.aload_n 0, 0), some (.getfield 24, 0), none, none, some (.aload_n 0, 0), some (.getfield 48, 0), none, none, some (.iload 4, 0), none, some (.iastore, 0), some (.aload_n 0, 0)],
  [some (.getfield 27, 0), none, none, some (.aload_n 0, 0), some (.getfield 48, 0), none, none, some (.iload_n 1, 0), some (.iastore, 0), some (.iload 4, 0), none, some (.ifCond .eq 16, 91), none, none, some (.aload_n 0, 0), some (.aload_n 0, 0)],
  [some (.getfield 48, 0), none, none, some (.invokevirtual 75, 0), none, none, some (.ifCond .eq 5, 91), none, none, some (.iconst 0, 0), some (.ireturn, 0), some (.aload_n 0, 0), some (.dup, 0), some (.getfield 48, 0), none, none],
  [some (.iconst 1, 0), some (.iadd, 0), some (.putfield 48, 0), none, none, some (.iconst 1, 0), some (.ireturn, 0), none, none, none, none, none, none, none, none, none]]
abbrev e_U_addSymbol : am_E := am_mk m_U_addSymbol k_U_addSymbol tf_U ti_U tl_U tc_U tn_U
theorem ok_U_addSymbol : am_ok am_p e_U_addSymbol := am_mk_ok (by decide +kernel) of_U oi_U ol_U oc_U on_U
def k_U_canStand : List (List (Option (ClassFile.Instr × Nat))) := [[some (.iload_n 1, 0), some (.ifCond .ne 23, 24), none, none, some (.iload_n 2, 0), some (.ifCond .ne 17, 22), none, none, some (.iload_n 3, 0), some (.iconst 1, 0), some (.if_icmp .eq 8, 18), none, none, some (.iload_n 3, 0), some (.iconst 2, 0), some (.if_icmp .ne 7, 22)],
  [none, none, some (.iconst 1, 0), some (.goto 4, 23), none, none, some (.iconst 0, 0), some (.ireturn, 0), some (.iload_n 1, 0), some (.iconst 4, 0), some (.if_icmp .ne 24, 50), none, none, some (.iload_n 2, 0), some (.iconst 1, 0), some (.bipush 20, 0)],
  [none, some (.invokestatic 55, 0), none, none, some (.ifCond .eq 12, 48), none, none, some (.iload_n 3, 0), some (.iconst 1, 0), some (.if_icmp .ne 7, 48), none, none, some (.iconst 1, 0), some (.goto 4, 49), none, none],
  [some (.iconst 0, 0), some (.ireturn, 0), some (.iload_n 1, 0), some (.invokestatic 79, 0), none, none, some (.ifCond .eq 32, 86), none, none, some (.iload_n 2, 0), some (.iconst 0, 0), some (.aload_n 0, 0), some (.getfield 9, 0), none, none, some (.iload_n 1, 0)],
  [some (.iconst 1, 0), some (.isub, 0), some (.iaload, 0), some (.invokestatic 55, 0), none, none, some (.ifCond .eq 16, 86), none, none, some (.iload_n 3, 0), some (.iconst 0, 0), some (.iconst 2, 0), some (.invokestatic 55, 0), none, none, some (.ifCond .eq 7, 86)],
  [none, none, some (.iconst 1, 0), some (.goto 4, 87), none, none, some (.iconst 0, 0), some (.ireturn, 0), none, none, none, none, none, none, none, none]]
abbrev e_U_canStand : am_E := am_mk m_U_canStand k_U_canStand tf_U ti_U tl_U tc_U tn_U
theorem ok_U_canStand : am_ok am_p e_U_canStand := am_mk_ok (by decide +kernel) of_U oi_U ol_U oc_U on_U
def k_U_isPlaceOfClass : List (List (Option (ClassFile.Instr × Nat))) := [[some (.iload_n 0, 0), some (.ifCond .le 12, 13), none, none, some (.iload_n 0, 0), some (.iconst 4, 0), some (.if_icmp .ge 7, 13), none, none, some (.iconst 1, 0), some (.goto 4, 14), none, none, some (.iconst 0, 0), some (.ireturn, 0), none]]
abbrev e_U_isPlaceOfClass : am_E := am_mk m_U_isPlaceOfClass k_U_isPlaceOfClass tf_U ti_U tl_U tc_U tn_U
theorem ok_U_isPlaceOfClass : am_ok am_p e_U_isPlaceOfClass := am_mk_ok (by decide +kernel) of_U oi_U ol_U oc_U on_U
def k_U_isNameTaken : List (List (Option (ClassFile.Instr × Nat))) := [[some (.iconst 0, 0), some (.istore_n 2, 0), some (.iload_n 2, 0), some (.iload_n 1, 0), some (.if_icmp .ge 30, 34), none, none, some (.aload_n 0, 0), some (.getfield 24, 0), none, none, some (.iload_n 2, 0), some (.iaload, 0), some (.ifCond .eq 15, 28), none, none],
  [some (.aload_n 0, 0), some (.iload_n 2, 0), some (.aload_n 0, 0), some (.iload_n 1, 0), some (.invokevirtual 82, 0), none, none, some (.ifCond .eq 5, 28), none, none, some (.iconst 1, 0), some (.ireturn, 0), some (.iinc 2 1, 0), none, none, some (.goto (-29), 2)],
  [none, none, some (.iconst 0, 0), some (.ireturn, 0), none, none, none, none, none, none, none, none, none, none, none, none]]
abbrev e_U_isNameTaken : am_E := am_mk m_U_isNameTaken k_U_isNameTaken tf_U ti_U tl_U tc_U tn_U
theorem ok_U_isNameTaken : am_ok am_p e_U_isNameTaken := am_mk_ok (by decide +kernel) of_U oi_U ol_U oc_U on_U
def k_U_isDefined : List (List (Option (ClassFile.Instr × Nat))) := [[some (.aload_n 0, 0), some (.getfield 18, 0), none, none, some (.iload_n 1, 0), some (.iaload, 0), some (.invokestatic 79, 0), none, none, some (.ireturn, 0), none, none, none, none, none, none]]
abbrev e_U_isDefined : am_E := am_mk m_U_isDefined k_U_isDefined tf_U ti_U tl_U tc_U tn_U
theorem ok_U_isDefined : am_ok am_p e_U_isDefined := am_mk_ok (by decide +kernel) of_U oi_U ol_U oc_U on_U
def k_U_hasSameName : List (List (Option (ClassFile.Instr × Nat))) := [[some (.aload_n 0, 0), some (.getfield 27, 0), none, none, some (.iload_n 1, 0), some (.iaload, 0), some (.aload_n 2, 0), some (.getfield 27, 0), none, none, some (.iload_n 3, 0), some (.iaload, 0), some (.if_icmp .eq 5, 17), none, none, some (.iconst 0, 0)],
  [some (.ireturn, 0), some (.iconst 0, 0), some (.istore 4, 0), none, some (.iload 4, 0), none, some (.aload_n 0, 0), some (.getfield 27, 0), none, none, some (.iload_n 1, 0), some (.iaload, 0), some (.if_icmp .ge 38, 66), none, none, some (.aload_n 0, 0)],
  [some (.getfield 30, 0), none, none, some (.iload_n 1, 0), some (.bipush 6, 0), none, some (.imul, 0), some (.iload 4, 0), none, some (.iadd, 0), some (.iaload, 0), some (.aload_n 2, 0), some (.getfield 30, 0), none, none, some (.iload_n 3, 0)],
  [some (.bipush 6, 0), none, some (.imul, 0), some (.iload 4, 0), none, some (.iadd, 0), some (.iaload, 0), some (.if_icmp .eq 5, 60), none, none, some (.iconst 0, 0), some (.ireturn, 0), some (.iinc 4 1, 0), none, none, some (.goto (-43), 20)],
  [none, none, some (.iconst 1, 0), some (.ireturn, 0), none, none, none, none, none, none, none, none, none, none, none, none]]
abbrev e_U_hasSameName : am_E := am_mk m_U_hasSameName k_U_hasSameName tf_U ti_U tl_U tc_U tn_U
theorem ok_U_hasSameName : am_ok am_p e_U_hasSameName := am_mk_ok (by decide +kernel) of_U oi_U ol_U oc_U on_U
def k_U_addRelocation : List (List (Option (ClassFile.Instr × Nat))) := [[some (.aload_n 0, 0), some (.getfield 52, 0), none, none, some (.bipush 10, 0), none, some (.if_icmp .ge 22, 28), none, none, some (.iload_n 1, 0), some (.iconst 0, 0), some (.iconst 1, 0), some (.invokestatic 55, 0), none, none, some (.ifCond .eq 13, 28)],
  [none, none, some (.iload 4, 0), none, some (.iconst 0, 0), some (.iconst 1, 0), some (.invokestatic 55, 0), none, none, some (.ifCond .ne 5, 30), none, none, some (.iconst 0, 0), some (.ireturn, 0), some (.iload_n 2, 0), some (.iconst 0, 0)],
  [some (.aload_n 0, 0), some (.getfield 9, 0), none, none, some (.iload_n 1, 0), some (.iaload, 0), some (.iconst 2, 0), some (.isub, 0), some (.invokestatic 55, 0), none, none, some (.ifCond .eq 20, 63), none, none, some (.aload_n 0, 0), some (.iload_n 3, 0)],
  [some (.invokevirtual 86, 0), none, none, some (.ifCond .eq 12, 63), none, none, some (.aload_n 0, 0), some (.iload_n 1, 0), some (.iload_n 2, 0), some (.invokevirtual 89, 0), none, none, some (.ifCond .eq 5, 65), none, none, some (.iconst 0, 0)],
  [some (.ireturn, 0), some (.aload_n 0, 0), some (.getfield 33, 0), none, none, some (.aload_n 0, 0), some (.getfield 52, 0), none, none, some (.iload_n 1, 0), some (.iastore, 0), some (.aload_n 0, 0), some (.getfield 36, 0), none, none, some (.aload_n 0, 0)],
  [some (.getfield 52, 0), none, none, some (.iload_n 2, 0), some (.iastore, 0), some (.aload_n 0, 0), some (.getfield 39, 0), none, none, some (.aload_n 0, 0), some (.getfield 52, 0), none, none, some (.iload_n 3, 0), some (.iastore, 0), some (.aload_n 0, 0)],
  [some (.getfield 42, 0), none, none, some (.aload_n 0, 0), some (.getfield 52, 0), none, none, some (.iload 4, 0), none, some (.iastore, 0), some (.aload_n 0, 0), some (.getfield 45, 0), none, none, some (.aload_n 0, 0), some (.getfield 52, 0)],
  [none, none, some (.iconst 0, 0), some (.iastore, 0), some (.aload_n 0, 0), some (.dup, 0), some (.getfield 52, 0), none, none, some (.iconst 1, 0), some (.iadd, 0), some (.putfield 52, 0), none, none, some (.iconst 1, 0), some (.ireturn, 0)]]
abbrev e_U_addRelocation : am_E := am_mk m_U_addRelocation k_U_addRelocation tf_U ti_U tl_U tc_U tn_U
theorem ok_U_addRelocation : am_ok am_p e_U_addRelocation := am_mk_ok (by decide +kernel) of_U oi_U ol_U oc_U on_U
def k_U_isTarget : List (List (Option (ClassFile.Instr × Nat))) := [[some (.iload_n 1, 0), some (.iconst 0, 0), some (.aload_n 0, 0), some (.getfield 48, 0), none, none, some (.iconst 1, 0), some (.isub, 0), some (.invokestatic 55, 0), none, none, some (.ifCond .ne 14, 25), none, none, some (.iload_n 1, 0), some (.bipush 8, 0)],
  [none, some (.bipush 10, 0), none, some (.invokestatic 55, 0), none, none, some (.ifCond .eq 7, 29), none, none, some (.iconst 1, 0), some (.goto 4, 30), none, none, some (.iconst 0, 0), some (.ireturn, 0), none]]
abbrev e_U_isTarget : am_E := am_mk m_U_isTarget k_U_isTarget tf_U ti_U tl_U tc_U tn_U
theorem ok_U_isTarget : am_ok am_p e_U_isTarget := am_mk_ok (by decide +kernel) of_U oi_U ol_U oc_U on_U
def k_U_overlapsField : List (List (Option (ClassFile.Instr × Nat))) := [[some (.iconst 0, 0), some (.istore_n 3, 0), some (.iload_n 3, 0), some (.aload_n 0, 0), some (.getfield 52, 0), none, none, some (.if_icmp .ge 36, 43), none, none, some (.aload_n 0, 0), some (.getfield 33, 0), none, none, some (.iload_n 3, 0), some (.iaload, 0)],
  [some (.iload_n 1, 0), some (.if_icmp .ne 20, 37), none, none, some (.aload_n 0, 0), some (.getfield 36, 0), none, none, some (.iload_n 3, 0), some (.iaload, 0), some (.iload_n 2, 0), some (.isub, 0), some (.invokestatic 93, 0), none, none, some (.iconst 2, 0)],
  [some (.if_icmp .ge 5, 37), none, none, some (.iconst 1, 0), some (.ireturn, 0), some (.iinc 3 1, 0), none, none, some (.goto (-38), 2), none, none, some (.iconst 0, 0), some (.ireturn, 0), none, none, none]]
abbrev e_U_overlapsField : am_E := am_mk m_U_overlapsField k_U_overlapsField tf_U ti_U tl_U tc_U tn_U
theorem ok_U_overlapsField : am_ok am_p e_U_overlapsField := am_mk_ok (by decide +kernel) of_U oi_U ol_U oc_U on_U
def k_U_fieldAt : List (List (Option (ClassFile.Instr × Nat))) := [[some (.aload_n 0, 0), some (.aload_n 0, 0), some (.getfield 33, 0), none, none, some (.iload_n 1, 0), some (.iaload, 0), some (.invokevirtual 63, 0), none, none, some (.aload_n 0, 0), some (.getfield 36, 0), none, none, some (.iload_n 1, 0), some (.iaload, 0)],
  [some (.iadd, 0), some (.ireturn, 0), none, none, none, none, none, none, none, none, none, none, none, none, none, none]]
abbrev e_U_fieldAt : am_E := am_mk m_U_fieldAt k_U_fieldAt tf_U ti_U tl_U tc_U tn_U
theorem ok_U_fieldAt : am_ok am_p e_U_fieldAt := am_mk_ok (by decide +kernel) of_U oi_U ol_U oc_U on_U
def k_U_hasClassTarget : List (List (Option (ClassFile.Instr × Nat))) := [[some (.iconst 0, 0), some (.istore_n 2, 0), some (.iload_n 2, 0), some (.aload_n 0, 0), some (.getfield 52, 0), none, none, some (.if_icmp .ge 24, 31), none, none, some (.aload_n 0, 0), some (.getfield 39, 0), none, none, some (.iload_n 2, 0), some (.iaload, 0)],
  [some (.bipush 8, 0), none, some (.iload_n 1, 0), some (.iadd, 0), some (.if_icmp .ne 5, 25), none, none, some (.iconst 1, 0), some (.ireturn, 0), some (.iinc 2 1, 0), none, none, some (.goto (-26), 2), none, none, some (.iconst 0, 0)],
  [some (.ireturn, 0), none, none, none, none, none, none, none, none, none, none, none, none, none, none, none]]
abbrev e_U_hasClassTarget : am_E := am_mk m_U_hasClassTarget k_U_hasClassTarget tf_U ti_U tl_U tc_U tn_U
theorem ok_U_hasClassTarget : am_ok am_p e_U_hasClassTarget := am_mk_ok (by decide +kernel) of_U oi_U ol_U oc_U on_U
def k_U_hasFact : List (List (Option (ClassFile.Instr × Nat))) := [[some (.iload_n 1, 0), some (.iconst 0, 0), some (.iconst 4, 0), some (.invokestatic 55, 0), none, none, some (.ifCond .ne 21, 27), none, none, some (.iload_n 1, 0), some (.bipush 100, 0), none, some (.bipush 100, 0), none, some (.aload_n 0, 0), some (.invokevirtual 59, 0)],
  [none, none, some (.iadd, 0), some (.iconst 1, 0), some (.isub, 0), some (.invokestatic 55, 0), none, none, some (.ifCond .eq 7, 31), none, none, some (.iconst 1, 0), some (.goto 4, 32), none, none, some (.iconst 0, 0)],
  [some (.ireturn, 0), none, none, none, none, none, none, none, none, none, none, none, none, none, none, none]]
abbrev e_U_hasFact : am_E := am_mk m_U_hasFact k_U_hasFact tf_U ti_U tl_U tc_U tn_U
theorem ok_U_hasFact : am_ok am_p e_U_hasFact := am_mk_ok (by decide +kernel) of_U oi_U ol_U oc_U on_U
def k_U_fact : List (List (Option (ClassFile.Instr × Nat))) := [[some (.iload_n 1, 0), some (.tableswitch 66 0 4 #[35, 42, 49, 56, 61], 0), none, none, none, none, none, none, none, none, none, none, none, none, none, none],
  [none, none, none, none, none, none, none, none, none, none, none, none, none, none, none, none],
  [none, none, none, none, some (.aload_n 0, 0), some (.getfield 9, 0), none, none, some (.iconst 0, 0), some (.iaload, 0), some (.ireturn, 0), some (.aload_n 0, 0), some (.getfield 9, 0), none, none, some (.iconst 1, 0)],
  [some (.iaload, 0), some (.ireturn, 0), some (.aload_n 0, 0), some (.getfield 9, 0), none, none, some (.iconst 2, 0), some (.iaload, 0), some (.ireturn, 0), some (.aload_n 0, 0), some (.getfield 48, 0), none, none, some (.ireturn, 0), some (.aload_n 0, 0), some (.getfield 52, 0)],
  [none, none, some (.ireturn, 0), some (.aload_n 0, 0), some (.getfield 15, 0), none, none, some (.iload_n 1, 0), some (.bipush 100, 0), none, some (.isub, 0), some (.iaload, 0), some (.ireturn, 0), none, none, none]]
abbrev e_U_fact : am_E := am_mk m_U_fact k_U_fact tf_U ti_U tl_U tc_U tn_U
theorem ok_U_fact : am_ok am_p e_U_fact := am_mk_ok (by decide +kernel) of_U oi_U ol_U oc_U on_U
def k_U_symbolFact : List (List (Option (ClassFile.Instr × Nat))) := [[some (.iload_n 2, 0), some (.tableswitch 59 0 3 #[31, 38, 45, 52], 0), none, none, none, none, none, none, none, none, none, none, none, none, none, none],
  [none, none, none, none, none, none, none, none, none, none, none, none, none, none, none, none],
  [some (.aload_n 0, 0), some (.getfield 18, 0), none, none, some (.iload_n 1, 0), some (.iaload, 0), some (.ireturn, 0), some (.aload_n 0, 0), some (.getfield 21, 0), none, none, some (.iload_n 1, 0), some (.iaload, 0), some (.ireturn, 0), some (.aload_n 0, 0), some (.getfield 24, 0)],
  [none, none, some (.iload_n 1, 0), some (.iaload, 0), some (.ireturn, 0), some (.aload_n 0, 0), some (.getfield 27, 0), none, none, some (.iload_n 1, 0), some (.iaload, 0), some (.ireturn, 0), some (.iload_n 2, 0), some (.iconst 4, 0), some (.isub, 0), some (.istore_n 3, 0)],
  [some (.iload_n 3, 0), some (.aload_n 0, 0), some (.getfield 27, 0), none, none, some (.iload_n 1, 0), some (.iaload, 0), some (.if_icmp .ge 17, 88), none, none, some (.aload_n 0, 0), some (.getfield 30, 0), none, none, some (.iload_n 1, 0), some (.bipush 6, 0)],
  [none, some (.imul, 0), some (.iload_n 3, 0), some (.iadd, 0), some (.iaload, 0), some (.goto 4, 89), none, none, some (.iconst (-1), 0), some (.ireturn, 0), none, none, none, none, none, none]]
abbrev e_U_symbolFact : am_E := am_mk m_U_symbolFact k_U_symbolFact tf_U ti_U tl_U tc_U tn_U
theorem ok_U_symbolFact : am_ok am_p e_U_symbolFact := am_mk_ok (by decide +kernel) of_U oi_U ol_U oc_U on_U
def k_U_relocationFact : List (List (Option (ClassFile.Instr × Nat))) := [[some (.iload_n 2, 0), some (.tableswitch 59 0 3 #[31, 38, 45, 52], 0), none, none, none, none, none, none, none, none, none, none, none, none, none, none],
  [none, none, none, none, none, none, none, none, none, none, none, none, none, none, none, none],
  [some (.aload_n 0, 0), some (.getfield 33, 0), none, none, some (.iload_n 1, 0), some (.iaload, 0), some (.ireturn, 0), some (.aload_n 0, 0), some (.getfield 36, 0), none, none, some (.iload_n 1, 0), some (.iaload, 0), some (.ireturn, 0), some (.aload_n 0, 0), some (.getfield 39, 0)],
  [none, none, some (.iload_n 1, 0), some (.iaload, 0), some (.ireturn, 0), some (.aload_n 0, 0), some (.getfield 42, 0), none, none, some (.iload_n 1, 0), some (.iaload, 0), some (.ireturn, 0), some (.aload_n 0, 0), some (.getfield 45, 0), none, none],
  [some (.iload_n 1, 0), some (.iaload, 0), some (.ireturn, 0), none, none, none, none, none, none, none, none, none, none, none, none, none]]
abbrev e_U_relocationFact : am_E := am_mk m_U_relocationFact k_U_relocationFact tf_U ti_U tl_U tc_U tn_U
theorem ok_U_relocationFact : am_ok am_p e_U_relocationFact := am_mk_ok (by decide +kernel) of_U oi_U ol_U oc_U on_U
