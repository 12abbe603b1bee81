def k_T_init : List (List (Option (ClassFile.Instr × Nat))) := [[some (.aload_n 0, 0), some (.invokespecial 3, 0), none, none, some (.aload_n 0, 0), some (.sipush 160, 0), none, none, some (.newarray .int, 0), none, some (.putfield 9, 0), none, none, some (.return_, 0), none, none]]
abbrev e_T_init : am_E := am_mk m_T_init k_T_init tf_T ti_T tl_T tc_T tn_T
theorem ok_T_init : am_ok am_p e_T_init := am_mk_ok (by decide +kernel) of_T oi_T ol_T oc_T on_T
def k_T_reset : List (List (Option (ClassFile.Instr × Nat))) := [[some (.aload_n 0, 0), some (.iconst 0, 0), some (.putfield 15, 0), none, none, some (.aload_n 0, 0), some (.iconst 0, 0), some (.putfield 19, 0), none, none, some (.return_, 0), none, none, none, none, none]]
abbrev e_T_reset : am_E := am_mk m_T_reset k_T_reset tf_T ti_T tl_T tc_T tn_T
theorem ok_T_reset : am_ok am_p e_T_reset := am_mk_ok (by decide +kernel) of_T oi_T ol_T oc_T on_T
def k_T_put : List (List (Option (ClassFile.Instr × Nat))) := [[some (.aload_n 0, 0), some (.getfield 15, 0), none, none, some (.ifCond .lt 15, 19), none, none, some (.aload_n 0, 0), some (.getfield 15, 0), none, none, some (.aload_n 0, 0), some (.getfield 9, 0), none, none, some (.arraylength, 0)],
  [some (.if_icmp .lt 9, 25), none, none, some (.aload_n 0, 0), some (.iconst 1, 0), some (.putfield 19, 0), none, none, some (.return_, 0), some (.aload_n 0, 0), some (.getfield 9, 0), none, none, some (.aload_n 0, 0), some (.getfield 15, 0), none],
  [none, some (.iload_n 1, 0), some (.sipush 255, 0), none, none, some (.iand, 0), some (.iastore, 0), some (.aload_n 0, 0), some (.dup, 0), some (.getfield 15, 0), none, none, some (.iconst 1, 0), some (.iadd, 0), some (.putfield 15, 0), none],
  [none, some (.return_, 0), none, none, none, none, none, none, none, none, none, none, none, none, none, none]]
abbrev e_T_put : am_E := am_mk m_T_put k_T_put tf_T ti_T tl_T tc_T tn_T
theorem ok_T_put : am_ok am_p e_T_put := am_mk_ok (by decide +kernel) of_T oi_T ol_T oc_T on_T
def k_T_patch : List (List (Option (ClassFile.Instr × Nat))) := [[some (.iload_n 1, 0), some (.ifCond .lt 31, 32), none, none, some (.iload_n 1, 0), some (.aload_n 0, 0), some (.getfield 15, 0), none, none, some (.if_icmp .ge 23, 32), none, none, some (.iload_n 1, 0), some (.aload_n 0, 0), some (.getfield 9, 0), none],
  [none, some (.arraylength, 0), some (.if_icmp .ge 14, 32), none, none, some (.aload_n 0, 0), some (.getfield 9, 0), none, none, some (.iload_n 1, 0), some (.iload_n 2, 0), some (.sipush 255, 0), none, none, some (.iand, 0), some (.iastore, 0)],
  [some (.return_, 0), none, none, none, none, none, none, none, none, none, none, none, none, none, none, none]]
abbrev e_T_patch : am_E := am_mk m_T_patch k_T_patch tf_T ti_T tl_T tc_T tn_T
theorem ok_T_patch : am_ok am_p e_T_patch := am_mk_ok (by decide +kernel) of_T oi_T ol_T oc_T on_T
def k_T_at : List (List (Option (ClassFile.Instr × Nat))) := [[some (.iload_n 1, 0), some (.ifCond .lt 29, 30), none, none, some (.iload_n 1, 0), some (.aload_n 0, 0), some (.getfield 15, 0), none, none, some (.if_icmp .ge 21, 30), none, none, some (.iload_n 1, 0), some (.aload_n 0, 0), some (.getfield 9, 0), none],
  [none, some (.arraylength, 0), some (.if_icmp .ge 12, 30), none, none, some (.aload_n 0, 0), some (.getfield 9, 0), none, none, some (.iload_n 1, 0), some (.iaload, 0), some (.goto 4, 31), none, none, some (.iconst (-1), 0), some (.ireturn, 0)]]
abbrev e_T_at : am_E := am_mk m_T_at k_T_at tf_T ti_T tl_T tc_T tn_T
theorem ok_T_at : am_ok am_p e_T_at := am_mk_ok (by decide +kernel) of_T oi_T ol_T oc_T on_T
