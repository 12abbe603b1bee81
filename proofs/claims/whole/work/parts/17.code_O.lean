def k_O_init : List (List (Option (ClassFile.Instr × Nat))) := [[some (.aload_n 0, 0), some (.invokespecial 1, 0), none, none, some (.aload_n 0, 0), some (.new 7, 0), none, none, some (.dup, 0), some (.invokespecial 9, 0), none, none, some (.putfield 10, 0), none, none, some (.aload_n 0, 0)],
  [some (.new 7, 0), none, none, some (.dup, 0), some (.invokespecial 9, 0), none, none, some (.putfield 16, 0), none, none, some (.aload_n 0, 0), some (.new 7, 0), none, none, some (.dup, 0), some (.invokespecial 9, 0)],
  [none, none, some (.putfield 19, 0), none, none, some (.aload_n 0, 0), some (.iconst 3, 0), some (.anewarray 22, 0), none, none, some (.dup, 0), some (.iconst 0, 0), some (.new 24, 0), none, none, some (.dup, 0)],
  [some (.invokespecial 26, 0), none, none, some (.aastore, 0), some (.dup, 0), some (.iconst 1, 0), some (.new 27, 0), none, none, some (.dup, 0), some (.invokespecial 29, 0), none, none, some (.aastore, 0), some (.dup, 0), some (.iconst 2, 0)],
  [some (.new 30, 0), none, none, some (.dup, 0), some (.invokespecial 32, 0), none, none, some (.aastore, 0), some (.putfield 33, 0), none, none, some (.aload_n 0, 0), some (.new 37, 0), none, none, some (.dup, 0)],
  [some (.invokespecial 39, 0), none, none, some (.putfield 40, 0), none, none, some (.aload_n 0, 0), some (.aload_n 0, 0), some (.getfield 40, 0), none, none, some (.getfield 44, 0), none, none, some (.putfield 48, 0), none],
  [none, some (.aload_n 0, 0), some (.iconst 0, 0), some (.putfield 49, 0), none, none, some (.return_, 0), none, none, none, none, none, none, none, none, none]]
abbrev e_O_init : am_E := am_mk m_O_init k_O_init tf_O ti_O tl_O tc_O tn_O
theorem ok_O_init : am_ok am_p e_O_init := am_mk_ok (by decide +kernel) of_O oi_O ol_O oc_O on_O
def k_O_feed : List (List (Option (ClassFile.Instr × Nat))) := [[some (.iload_n 3, 0), some (.iconst 1, 0), some (.if_icmp .lt 24, 26), none, none, some (.iload_n 3, 0), some (.bipush 8, 0), none, some (.if_icmp .gt 18, 26), none, none, some (.aload_n 0, 0), some (.getfield 10, 0), none, none, some (.getfield 53, 0)],
  [none, none, some (.iload_n 3, 0), some (.iadd, 0), some (.sipush 160, 0), none, none, some (.if_icmp .le 5, 28), none, none, some (.iconst 0, 0), some (.ireturn, 0), some (.iconst 0, 0), some (.istore 4, 0), none, some (.iload 4, 0)],
  [none, some (.iload_n 3, 0), some (.if_icmp .ge 28, 62), none, none, some (.aload_n 0, 0), some (.getfield 10, 0), none, none, some (.lload_n 1, 0), some (.bipush 8, 0), none, some (.iload 4, 0), none, some (.imul, 0), some (.lushr, 0)],
  [some (.l2i, 0), some (.sipush 255, 0), none, none, some (.iand, 0), some (.invokevirtual 56, 0), none, none, some (.iinc 4 1, 0), none, none, some (.goto (-28), 31), none, none, some (.iconst 1, 0), some (.ireturn, 0)]]
abbrev e_O_feed : am_E := am_mk m_O_feed k_O_feed tf_O ti_O tl_O tc_O tn_O
theorem ok_O_feed : am_ok am_p e_O_feed := am_mk_ok (by decide +kernel) of_O oi_O ol_O oc_O on_O
def k_O_load : List (List (Option (ClassFile.Instr × Nat))) := [[some (.aload_n 0, 0), some (.iload_n 1, 0), some (.invokevirtual 60, 0), none, none, some (.ifCond .ne 13, 18), none, none, some (.new 64, 0), none, none, some (.dup, 0), some (.ldc 66, 0), none, some (.invokespecial 68, 0), none],
  [none, some (.athrow, 0), some (.aload_n 0, 0), some (.getfield 49, 0), none, none, some (.iconst 3, 0), some (.if_icmp .lt 13, 36), none, none, some (.new 71, 0), none, none, some (.dup, 0), some (.ldc 73, 0), none],
  [some (.invokespecial 75, 0), none, none, some (.athrow, 0), some (.aload_n 0, 0), some (.getfield 33, 0), none, none, some (.iload_n 1, 0), some (.aaload, 0), some (.aload_n 0, 0), some (.getfield 10, 0), none, none, some (.aload_n 0, 0), some (.getfield 48, 0)],
  [none, none, some (.aload_n 0, 0), some (.getfield 49, 0), none, none, some (.aaload, 0), some (.invokevirtual 76, 0), none, none, some (.istore_n 2, 0), some (.aload_n 0, 0), some (.getfield 10, 0), none, none, some (.invokevirtual 80, 0)],
  [none, none, some (.iload_n 2, 0), some (.ifCond .ne 13, 80), none, none, some (.new 83, 0), none, none, some (.dup, 0), some (.ldc 85, 0), none, some (.invokespecial 87, 0), none, none, some (.athrow, 0)],
  [some (.aload_n 0, 0), some (.dup, 0), some (.getfield 49, 0), none, none, some (.iconst 1, 0), some (.iadd, 0), some (.putfield 49, 0), none, none, some (.aload_n 0, 0), some (.getfield 49, 0), none, none, some (.iconst 1, 0), some (.isub, 0)],
  [some (.ireturn, 0), none, none, none, none, none, none, none, none, none, none, none, none, none, none, none]]
abbrev e_O_load : am_E := am_mk m_O_load k_O_load tf_O ti_O tl_O tc_O tn_O
theorem ok_O_load : am_ok am_p e_O_load := am_mk_ok (by decide +kernel) of_O oi_O ol_O oc_O on_O
def k_O_clear : List (List (Option (ClassFile.Instr × Nat))) := [[some (.aload_n 0, 0), some (.iconst 0, 0), some (.putfield 49, 0), none, none, some (.return_, 0), none, none, none, none, none, none, none, none, none, none]]
abbrev e_O_clear : am_E := am_mk m_O_clear k_O_clear tf_O ti_O tl_O tc_O tn_O
theorem ok_O_clear : am_ok am_p e_O_clear := am_mk_ok (by decide +kernel) of_O oi_O ol_O oc_O on_O
def k_O_write : List (List (Option (ClassFile.Instr × Nat))) := [[some (.aload_n 0, 0), some (.iload_n 1, 0), some (.invokevirtual 88, 0), none, none, some (.ifCond .ne 13, 18), none, none, some (.new 91, 0), none, none, some (.dup, 0), some (.ldc 93, 0), none, some (.invokespecial 95, 0), none],
  [none, some (.athrow, 0), some (.aload_n 0, 0), some (.iload_n 2, 0), some (.invokevirtual 60, 0), none, none, some (.ifCond .ne 13, 36), none, none, some (.new 64, 0), none, none, some (.dup, 0), some (.ldc 66, 0), none],
  [some (.invokespecial 68, 0), none, none, some (.athrow, 0), some (.aload_n 0, 0), some (.getfield 33, 0), none, none, some (.iload_n 2, 0), some (.aaload, 0), some (.aload_n 0, 0), some (.getfield 48, 0), none, none, some (.iload_n 1, 0), some (.aaload, 0)],
  [some (.invokevirtual 96, 0), none, none, some (.ifCond .ne 13, 64), none, none, some (.new 83, 0), none, none, some (.dup, 0), some (.ldc 100, 0), none, some (.invokespecial 87, 0), none, none, some (.athrow, 0)],
  [some (.aload_n 0, 0), some (.getfield 19, 0), none, none, some (.invokevirtual 80, 0), none, none, some (.aload_n 0, 0), some (.getfield 33, 0), none, none, some (.iload_n 2, 0), some (.aaload, 0), some (.aload_n 0, 0), some (.getfield 48, 0), none],
  [none, some (.iload_n 1, 0), some (.aaload, 0), some (.aload_n 0, 0), some (.getfield 19, 0), none, none, some (.invokevirtual 102, 0), none, none, some (.aload_n 0, 0), some (.getfield 19, 0), none, none, some (.getfield 106, 0), none],
  [none, some (.ifCond .eq 13, 110), none, none, some (.new 83, 0), none, none, some (.dup, 0), some (.ldc 110, 0), none, some (.invokespecial 87, 0), none, none, some (.athrow, 0), some (.aload_n 0, 0), some (.getfield 16, 0)],
  [none, none, some (.astore_n 3, 0), some (.aload_n 0, 0), some (.aload_n 0, 0), some (.getfield 19, 0), none, none, some (.putfield 16, 0), none, none, some (.aload_n 0, 0), some (.aload_n 3, 0), some (.putfield 19, 0), none, none],
  [some (.aload_n 0, 0), some (.getfield 16, 0), none, none, some (.getfield 53, 0), none, none, some (.ireturn, 0), none, none, none, none, none, none, none, none]]
abbrev e_O_write : am_E := am_mk m_O_write k_O_write tf_O ti_O tl_O tc_O tn_O
theorem ok_O_write : am_ok am_p e_O_write := am_mk_ok (by decide +kernel) of_O oi_O ol_O oc_O on_O
def k_O_written : List (List (Option (ClassFile.Instr × Nat))) := [[some (.aload_n 0, 0), some (.getfield 16, 0), none, none, some (.iload_n 1, 0), some (.invokevirtual 112, 0), none, none, some (.ireturn, 0), none, none, none, none, none, none, none]]
abbrev e_O_written : am_E := am_mk m_O_written k_O_written tf_O ti_O tl_O tc_O tn_O
theorem ok_O_written : am_ok am_p e_O_written := am_mk_ok (by decide +kernel) of_O oi_O ol_O oc_O on_O
def k_O_again : List (List (Option (ClassFile.Instr × Nat))) := [[some (.aload_n 0, 0), some (.getfield 10, 0), none, none, some (.invokevirtual 80, 0), none, none, some (.iconst 0, 0), some (.istore_n 1, 0), some (.iload_n 1, 0), some (.aload_n 0, 0), some (.getfield 16, 0), none, none, some (.getfield 53, 0), none],
  [none, some (.if_icmp .ge 24, 41), none, none, some (.aload_n 0, 0), some (.getfield 10, 0), none, none, some (.aload_n 0, 0), some (.getfield 16, 0), none, none, some (.iload_n 1, 0), some (.invokevirtual 112, 0), none, none],
  [some (.invokevirtual 56, 0), none, none, some (.iinc 1 1, 0), none, none, some (.goto (-29), 9), none, none, some (.aload_n 0, 0), some (.getfield 10, 0), none, none, some (.getfield 53, 0), none, none],
  [some (.ireturn, 0), none, none, none, none, none, none, none, none, none, none, none, none, none, none, none]]
abbrev e_O_again : am_E := am_mk m_O_again k_O_again tf_O ti_O tl_O tc_O tn_O
theorem ok_O_again : am_ok am_p e_O_again := am_mk_ok (by decide +kernel) of_O oi_O ol_O oc_O on_O
def k_O_object : List (List (Option (ClassFile.Instr × Nat))) := [[some (.aload_n 0, 0), some (.iload_n 1, 0), some (.invokevirtual 88, 0), none, none, some (.ifCond .eq 16, 21), none, none, some (.aload_n 0, 0), some (.getfield 48, 0), none, none, some (.iload_n 1, 0), some (.aaload, 0), some (.iload_n 2, 0), some (.invokevirtual 116, 0)],
  [none, none, some (.ifCond .ne 13, 31), none, none, some (.new 91, 0), none, none, some (.dup, 0), some (.ldc 121, 0), none, some (.invokespecial 95, 0), none, none, some (.athrow, 0), some (.aload_n 0, 0)],
  [some (.getfield 48, 0), none, none, some (.iload_n 1, 0), some (.aaload, 0), some (.iload_n 2, 0), some (.invokevirtual 123, 0), none, none, some (.ireturn, 0), none, none, none, none, none, none]]
abbrev e_O_object : am_E := am_mk m_O_object k_O_object tf_O ti_O tl_O tc_O tn_O
theorem ok_O_object : am_ok am_p e_O_object := am_mk_ok (by decide +kernel) of_O oi_O ol_O oc_O on_O
def k_O_symbol : List (List (Option (ClassFile.Instr × Nat))) := [[some (.aload_n 0, 0), some (.iload_n 1, 0), some (.invokevirtual 88, 0), none, none, some (.ifCond .eq 30, 35), none, none, some (.iload_n 2, 0), some (.ifCond .lt 26, 35), none, none, some (.iload_n 2, 0), some (.aload_n 0, 0), some (.getfield 48, 0), none],
  [none, some (.iload_n 1, 0), some (.aaload, 0), some (.getfield 126, 0), none, none, some (.if_icmp .ge 13, 35), none, none, some (.iload_n 3, 0), some (.ifCond .lt 9, 35), none, none, some (.iload_n 3, 0), some (.bipush 10, 0), none],
  [some (.if_icmp .lt 13, 45), none, none, some (.new 91, 0), none, none, some (.dup, 0), some (.ldc 129, 0), none, some (.invokespecial 95, 0), none, none, some (.athrow, 0), some (.aload_n 0, 0), some (.getfield 48, 0), none],
  [none, some (.iload_n 1, 0), some (.aaload, 0), some (.iload_n 2, 0), some (.iload_n 3, 0), some (.invokevirtual 131, 0), none, none, some (.ireturn, 0), none, none, none, none, none, none, none]]
abbrev e_O_symbol : am_E := am_mk m_O_symbol k_O_symbol tf_O ti_O tl_O tc_O tn_O
theorem ok_O_symbol : am_ok am_p e_O_symbol := am_mk_ok (by decide +kernel) of_O oi_O ol_O oc_O on_O
def k_O_relocation : List (List (Option (ClassFile.Instr × Nat))) := [[some (.aload_n 0, 0), some (.iload_n 1, 0), some (.invokevirtual 88, 0), none, none, some (.ifCond .eq 29, 34), none, none, some (.iload_n 2, 0), some (.ifCond .lt 25, 34), none, none, some (.iload_n 2, 0), some (.aload_n 0, 0), some (.getfield 48, 0), none],
  [none, some (.iload_n 1, 0), some (.aaload, 0), some (.getfield 135, 0), none, none, some (.if_icmp .ge 12, 34), none, none, some (.iload_n 3, 0), some (.ifCond .lt 8, 34), none, none, some (.iload_n 3, 0), some (.iconst 4, 0), some (.if_icmp .le 13, 44)],
  [none, none, some (.new 91, 0), none, none, some (.dup, 0), some (.ldc 138, 0), none, some (.invokespecial 95, 0), none, none, some (.athrow, 0), some (.aload_n 0, 0), some (.getfield 48, 0), none, none],
  [some (.iload_n 1, 0), some (.aaload, 0), some (.iload_n 2, 0), some (.iload_n 3, 0), some (.invokevirtual 140, 0), none, none, some (.ireturn, 0), none, none, none, none, none, none, none, none]]
abbrev e_O_relocation : am_E := am_mk m_O_relocation k_O_relocation tf_O ti_O tl_O tc_O tn_O
theorem ok_O_relocation : am_ok am_p e_O_relocation := am_mk_ok (by decide +kernel) of_O oi_O ol_O oc_O on_O
def k_O_link : List (List (Option (ClassFile.Instr × Nat))) := [[some (.iload_n 1, 0), some (.ifCond .lt 15, 16), none, none, some (.iload_n 1, 0), some (.ldc 143, 0), none, some (.if_icmp .gt 9, 16), none, none, some (.iload_n 1, 0), some (.iconst 1, 0), some (.iand, 0), some (.ifCond .eq 13, 26), none, none],
  [some (.new 64, 0), none, none, some (.dup, 0), some (.ldc 144, 0), none, some (.invokespecial 68, 0), none, none, some (.athrow, 0), some (.aload_n 0, 0), some (.getfield 49, 0), none, none, some (.ifCond .ne 13, 43), none],
  [none, some (.new 71, 0), none, none, some (.dup, 0), some (.ldc 146, 0), none, some (.invokespecial 75, 0), none, none, some (.athrow, 0), some (.aload_n 0, 0), some (.getfield 40, 0), none, none, some (.aload_n 0, 0)],
  [some (.getfield 49, 0), none, none, some (.invokevirtual 148, 0), none, none, some (.ifCond .eq 13, 67), none, none, some (.new 71, 0), none, none, some (.dup, 0), some (.ldc 151, 0), none, some (.invokespecial 75, 0)],
  [none, none, some (.athrow, 0), some (.aload_n 0, 0), some (.getfield 40, 0), none, none, some (.aload_n 0, 0), some (.getfield 49, 0), none, none, some (.invokevirtual 153, 0), none, none, some (.ifCond .eq 13, 91), none],
  [none, some (.new 91, 0), none, none, some (.dup, 0), some (.ldc 156, 0), none, some (.invokespecial 95, 0), none, none, some (.athrow, 0), some (.aload_n 0, 0), some (.getfield 40, 0), none, none, some (.aload_n 0, 0)],
  [some (.getfield 49, 0), none, none, some (.iload_n 1, 0), some (.invokevirtual 158, 0), none, none, some (.aload_n 0, 0), some (.getfield 40, 0), none, none, some (.getfield 162, 0), none, none, some (.ireturn, 0), none]]
abbrev e_O_link : am_E := am_mk m_O_link k_O_link tf_O ti_O tl_O tc_O tn_O
theorem ok_O_link : am_ok am_p e_O_link := am_mk_ok (by decide +kernel) of_O oi_O ol_O oc_O on_O
def k_O_image : List (List (Option (ClassFile.Instr × Nat))) := [[some (.aload_n 0, 0), some (.getfield 40, 0), none, none, some (.iload_n 1, 0), some (.invokevirtual 165, 0), none, none, some (.ireturn, 0), none, none, none, none, none, none, none]]
abbrev e_O_image : am_E := am_mk m_O_image k_O_image tf_O ti_O tl_O tc_O tn_O
theorem ok_O_image : am_ok am_p e_O_image := am_mk_ok (by decide +kernel) of_O oi_O ol_O oc_O on_O
def k_O_address : List (List (Option (ClassFile.Instr × Nat))) := [[some (.aload_n 0, 0), some (.getfield 40, 0), none, none, some (.iload_n 1, 0), some (.iload_n 2, 0), some (.invokevirtual 168, 0), none, none, some (.ireturn, 0), none, none, none, none, none, none]]
abbrev e_O_address : am_E := am_mk m_O_address k_O_address tf_O ti_O tl_O tc_O tn_O
theorem ok_O_address : am_ok am_p e_O_address := am_mk_ok (by decide +kernel) of_O oi_O ol_O oc_O on_O
def k_O_isFormat : List (List (Option (ClassFile.Instr × Nat))) := [[some (.iload_n 1, 0), some (.ifCond .lt 16, 17), none, none, some (.iload_n 1, 0), some (.aload_n 0, 0), some (.getfield 33, 0), none, none, some (.arraylength, 0), some (.if_icmp .ge 7, 17), none, none, some (.iconst 1, 0), some (.goto 4, 18), none],
  [none, some (.iconst 0, 0), some (.ireturn, 0), none, none, none, none, none, none, none, none, none, none, none, none, none]]
abbrev e_O_isFormat : am_E := am_mk m_O_isFormat k_O_isFormat tf_O ti_O tl_O tc_O tn_O
theorem ok_O_isFormat : am_ok am_p e_O_isFormat := am_mk_ok (by decide +kernel) of_O oi_O ol_O oc_O on_O
def k_O_isUnit : List (List (Option (ClassFile.Instr × Nat))) := [[some (.iload_n 1, 0), some (.ifCond .lt 15, 16), none, none, some (.iload_n 1, 0), some (.aload_n 0, 0), some (.getfield 49, 0), none, none, some (.if_icmp .ge 7, 16), none, none, some (.iconst 1, 0), some (.goto 4, 17), none, none],
  [some (.iconst 0, 0), some (.ireturn, 0), none, none, none, none, none, none, none, none, none, none, none, none, none, none]]
abbrev e_O_isUnit : am_E := am_mk m_O_isUnit k_O_isUnit tf_O ti_O tl_O tc_O tn_O
theorem ok_O_isUnit : am_ok am_p e_O_isUnit := am_mk_ok (by decide +kernel) of_O oi_O ol_O oc_O on_O
