abbrev b_Unpacker_unrotate : ByteArray := prog_12_method_18_code
def y_Unpacker_unrotate : MethodName := ⟨R_Unpacker, "unrotate", "()Z"⟩
theorem d_Unpacker_unrotate_0 : decode b_Unpacker_unrotate 0 = .ok (.aload_n 0, 1) := by decide +kernel
theorem d_Unpacker_unrotate_1 : decode b_Unpacker_unrotate 1 = .ok (.getfield 45, 3) := by decide +kernel
theorem d_Unpacker_unrotate_4 : decode b_Unpacker_unrotate 4 = .ok (.aload_n 0, 1) := by decide +kernel
theorem d_Unpacker_unrotate_5 : decode b_Unpacker_unrotate 5 = .ok (.getfield 188, 3) := by decide +kernel
theorem d_Unpacker_unrotate_8 : decode b_Unpacker_unrotate 8 = .ok (.aload_n 0, 1) := by decide +kernel
theorem d_Unpacker_unrotate_9 : decode b_Unpacker_unrotate 9 = .ok (.getfield 48, 3) := by decide +kernel
theorem d_Unpacker_unrotate_12 : decode b_Unpacker_unrotate 12 = .ok (.aload_n 0, 1) := by decide +kernel
theorem d_Unpacker_unrotate_13 : decode b_Unpacker_unrotate 13 = .ok (.getfield 51, 3) := by decide +kernel
theorem d_Unpacker_unrotate_16 : decode b_Unpacker_unrotate 16 = .ok (.invokestatic 204, 3) := by decide +kernel
theorem d_Unpacker_unrotate_19 : decode b_Unpacker_unrotate 19 = .ok (.aload_n 0, 1) := by decide +kernel
theorem d_Unpacker_unrotate_20 : decode b_Unpacker_unrotate 20 = .ok (.getfield 27, 3) := by decide +kernel
theorem d_Unpacker_unrotate_23 : decode b_Unpacker_unrotate 23 = .ok (.invokevirtual 210, 3) := by decide +kernel
theorem d_Unpacker_unrotate_26 : decode b_Unpacker_unrotate 26 = .ok (.iconst 0, 1) := by decide +kernel
theorem d_Unpacker_unrotate_27 : decode b_Unpacker_unrotate 27 = .ok (.istore_n 1, 1) := by decide +kernel
theorem d_Unpacker_unrotate_28 : decode b_Unpacker_unrotate 28 = .ok (.iconst (-1), 1) := by decide +kernel
theorem d_Unpacker_unrotate_29 : decode b_Unpacker_unrotate 29 = .ok (.istore_n 2, 1) := by decide +kernel
theorem d_Unpacker_unrotate_30 : decode b_Unpacker_unrotate 30 = .ok (.aload_n 0, 1) := by decide +kernel
theorem d_Unpacker_unrotate_31 : decode b_Unpacker_unrotate 31 = .ok (.getfield 122, 3) := by decide +kernel
theorem d_Unpacker_unrotate_34 : decode b_Unpacker_unrotate 34 = .ok (.istore_n 3, 1) := by decide +kernel
theorem d_Unpacker_unrotate_35 : decode b_Unpacker_unrotate 35 = .ok (.iconst 0, 1) := by decide +kernel
theorem d_Unpacker_unrotate_36 : decode b_Unpacker_unrotate 36 = .ok (.istore 4, 2) := by decide +kernel
theorem d_Unpacker_unrotate_38 : decode b_Unpacker_unrotate 38 = .ok (.iload 4, 2) := by decide +kernel
theorem d_Unpacker_unrotate_40 : decode b_Unpacker_unrotate 40 = .ok (.aload_n 0, 1) := by decide +kernel
theorem d_Unpacker_unrotate_41 : decode b_Unpacker_unrotate 41 = .ok (.getfield 188, 3) := by decide +kernel
theorem d_Unpacker_unrotate_44 : decode b_Unpacker_unrotate 44 = .ok (.if_icmp .ge 133, 3) := by decide +kernel
theorem d_Unpacker_unrotate_47 : decode b_Unpacker_unrotate 47 = .ok (.aload_n 0, 1) := by decide +kernel
theorem d_Unpacker_unrotate_48 : decode b_Unpacker_unrotate 48 = .ok (.getfield 48, 3) := by decide +kernel
theorem d_Unpacker_unrotate_51 : decode b_Unpacker_unrotate 51 = .ok (.iload_n 3, 1) := by decide +kernel
theorem d_Unpacker_unrotate_52 : decode b_Unpacker_unrotate 52 = .ok (.iaload, 1) := by decide +kernel
theorem d_Unpacker_unrotate_53 : decode b_Unpacker_unrotate 53 = .ok (.istore_n 3, 1) := by decide +kernel
theorem d_Unpacker_unrotate_54 : decode b_Unpacker_unrotate 54 = .ok (.aload_n 0, 1) := by decide +kernel
theorem d_Unpacker_unrotate_55 : decode b_Unpacker_unrotate 55 = .ok (.getfield 45, 3) := by decide +kernel
theorem d_Unpacker_unrotate_58 : decode b_Unpacker_unrotate 58 = .ok (.iload_n 3, 1) := by decide +kernel
theorem d_Unpacker_unrotate_59 : decode b_Unpacker_unrotate 59 = .ok (.iaload, 1) := by decide +kernel
theorem d_Unpacker_unrotate_60 : decode b_Unpacker_unrotate 60 = .ok (.istore 5, 2) := by decide +kernel
theorem d_Unpacker_unrotate_62 : decode b_Unpacker_unrotate 62 = .ok (.iload_n 1, 1) := by decide +kernel
theorem d_Unpacker_unrotate_63 : decode b_Unpacker_unrotate 63 = .ok (.iconst 4, 1) := by decide +kernel
theorem d_Unpacker_unrotate_64 : decode b_Unpacker_unrotate 64 = .ok (.if_icmp .ne 7, 3) := by decide +kernel
theorem d_Unpacker_unrotate_67 : decode b_Unpacker_unrotate 67 = .ok (.iconst 1, 1) := by decide +kernel
theorem d_Unpacker_unrotate_68 : decode b_Unpacker_unrotate 68 = .ok (.goto 4, 3) := by decide +kernel
theorem d_Unpacker_unrotate_71 : decode b_Unpacker_unrotate 71 = .ok (.iconst 0, 1) := by decide +kernel
theorem d_Unpacker_unrotate_72 : decode b_Unpacker_unrotate 72 = .ok (.istore 6, 2) := by decide +kernel
theorem d_Unpacker_unrotate_74 : decode b_Unpacker_unrotate 74 = .ok (.iload 6, 2) := by decide +kernel
theorem d_Unpacker_unrotate_76 : decode b_Unpacker_unrotate 76 = .ok (.ifCond .eq 25, 3) := by decide +kernel
theorem d_Unpacker_unrotate_79 : decode b_Unpacker_unrotate 79 = .ok (.iload 5, 2) := by decide +kernel
theorem d_Unpacker_unrotate_81 : decode b_Unpacker_unrotate 81 = .ok (.sipush 251, 3) := by decide +kernel
theorem d_Unpacker_unrotate_84 : decode b_Unpacker_unrotate 84 = .ok (.if_icmp .le 17, 3) := by decide +kernel
theorem d_Unpacker_unrotate_87 : decode b_Unpacker_unrotate 87 = .ok (.aload_n 0, 1) := by decide +kernel
theorem d_Unpacker_unrotate_88 : decode b_Unpacker_unrotate 88 = .ok (.getfield 20, 3) := by decide +kernel
theorem d_Unpacker_unrotate_91 : decode b_Unpacker_unrotate 91 = .ok (.bipush 11, 2) := by decide +kernel
theorem d_Unpacker_unrotate_93 : decode b_Unpacker_unrotate 93 = .ok (.aload_n 0, 1) := by decide +kernel
theorem d_Unpacker_unrotate_94 : decode b_Unpacker_unrotate 94 = .ok (.getfield 83, 3) := by decide +kernel
theorem d_Unpacker_unrotate_97 : decode b_Unpacker_unrotate 97 = .ok (.invokevirtual 96, 3) := by decide +kernel
theorem d_Unpacker_unrotate_100 : decode b_Unpacker_unrotate 100 = .ok (.ireturn, 1) := by decide +kernel
theorem d_Unpacker_unrotate_101 : decode b_Unpacker_unrotate 101 = .ok (.aload_n 0, 1) := by decide +kernel
theorem d_Unpacker_unrotate_102 : decode b_Unpacker_unrotate 102 = .ok (.iload 6, 2) := by decide +kernel
theorem d_Unpacker_unrotate_104 : decode b_Unpacker_unrotate 104 = .ok (.ifCond .eq 7, 3) := by decide +kernel
theorem d_Unpacker_unrotate_107 : decode b_Unpacker_unrotate 107 = .ok (.iload_n 2, 1) := by decide +kernel
theorem d_Unpacker_unrotate_108 : decode b_Unpacker_unrotate 108 = .ok (.goto 5, 3) := by decide +kernel
theorem d_Unpacker_unrotate_111 : decode b_Unpacker_unrotate 111 = .ok (.iload 5, 2) := by decide +kernel
theorem d_Unpacker_unrotate_113 : decode b_Unpacker_unrotate 113 = .ok (.iload 6, 2) := by decide +kernel
theorem d_Unpacker_unrotate_115 : decode b_Unpacker_unrotate 115 = .ok (.ifCond .eq 8, 3) := by decide +kernel
theorem d_Unpacker_unrotate_118 : decode b_Unpacker_unrotate 118 = .ok (.iload 5, 2) := by decide +kernel
theorem d_Unpacker_unrotate_120 : decode b_Unpacker_unrotate 120 = .ok (.goto 4, 3) := by decide +kernel
theorem d_Unpacker_unrotate_123 : decode b_Unpacker_unrotate 123 = .ok (.iconst 1, 1) := by decide +kernel
theorem d_Unpacker_unrotate_124 : decode b_Unpacker_unrotate 124 = .ok (.invokevirtual 211, 3) := by decide +kernel
theorem d_Unpacker_unrotate_127 : decode b_Unpacker_unrotate 127 = .ok (.ifCond .ne 17, 3) := by decide +kernel
theorem d_Unpacker_unrotate_130 : decode b_Unpacker_unrotate 130 = .ok (.aload_n 0, 1) := by decide +kernel
theorem d_Unpacker_unrotate_131 : decode b_Unpacker_unrotate 131 = .ok (.getfield 20, 3) := by decide +kernel
theorem d_Unpacker_unrotate_134 : decode b_Unpacker_unrotate 134 = .ok (.bipush 12, 2) := by decide +kernel
theorem d_Unpacker_unrotate_136 : decode b_Unpacker_unrotate 136 = .ok (.aload_n 0, 1) := by decide +kernel
theorem d_Unpacker_unrotate_137 : decode b_Unpacker_unrotate 137 = .ok (.getfield 83, 3) := by decide +kernel
theorem d_Unpacker_unrotate_140 : decode b_Unpacker_unrotate 140 = .ok (.invokevirtual 96, 3) := by decide +kernel
theorem d_Unpacker_unrotate_143 : decode b_Unpacker_unrotate 143 = .ok (.ireturn, 1) := by decide +kernel
theorem d_Unpacker_unrotate_144 : decode b_Unpacker_unrotate 144 = .ok (.iload 6, 2) := by decide +kernel
theorem d_Unpacker_unrotate_146 : decode b_Unpacker_unrotate 146 = .ok (.ifCond .eq 8, 3) := by decide +kernel
theorem d_Unpacker_unrotate_149 : decode b_Unpacker_unrotate 149 = .ok (.iconst 0, 1) := by decide +kernel
theorem d_Unpacker_unrotate_150 : decode b_Unpacker_unrotate 150 = .ok (.istore_n 1, 1) := by decide +kernel
theorem d_Unpacker_unrotate_151 : decode b_Unpacker_unrotate 151 = .ok (.goto 20, 3) := by decide +kernel
theorem d_Unpacker_unrotate_154 : decode b_Unpacker_unrotate 154 = .ok (.iload 5, 2) := by decide +kernel
theorem d_Unpacker_unrotate_156 : decode b_Unpacker_unrotate 156 = .ok (.iload_n 2, 1) := by decide +kernel
theorem d_Unpacker_unrotate_157 : decode b_Unpacker_unrotate 157 = .ok (.if_icmp .ne 9, 3) := by decide +kernel
theorem d_Unpacker_unrotate_160 : decode b_Unpacker_unrotate 160 = .ok (.iload_n 1, 1) := by decide +kernel
theorem d_Unpacker_unrotate_161 : decode b_Unpacker_unrotate 161 = .ok (.iconst 1, 1) := by decide +kernel
theorem d_Unpacker_unrotate_162 : decode b_Unpacker_unrotate 162 = .ok (.iadd, 1) := by decide +kernel
theorem d_Unpacker_unrotate_163 : decode b_Unpacker_unrotate 163 = .ok (.goto 4, 3) := by decide +kernel
theorem d_Unpacker_unrotate_166 : decode b_Unpacker_unrotate 166 = .ok (.iconst 1, 1) := by decide +kernel
theorem d_Unpacker_unrotate_167 : decode b_Unpacker_unrotate 167 = .ok (.istore_n 1, 1) := by decide +kernel
theorem d_Unpacker_unrotate_168 : decode b_Unpacker_unrotate 168 = .ok (.iload 5, 2) := by decide +kernel
theorem d_Unpacker_unrotate_170 : decode b_Unpacker_unrotate 170 = .ok (.istore_n 2, 1) := by decide +kernel
theorem d_Unpacker_unrotate_171 : decode b_Unpacker_unrotate 171 = .ok (.iinc 4 1, 3) := by decide +kernel
theorem d_Unpacker_unrotate_174 : decode b_Unpacker_unrotate 174 = .ok (.goto (-136), 3) := by decide +kernel
theorem d_Unpacker_unrotate_177 : decode b_Unpacker_unrotate 177 = .ok (.iload_n 1, 1) := by decide +kernel
theorem d_Unpacker_unrotate_178 : decode b_Unpacker_unrotate 178 = .ok (.iconst 4, 1) := by decide +kernel
theorem d_Unpacker_unrotate_179 : decode b_Unpacker_unrotate 179 = .ok (.if_icmp .ne 17, 3) := by decide +kernel
theorem d_Unpacker_unrotate_182 : decode b_Unpacker_unrotate 182 = .ok (.aload_n 0, 1) := by decide +kernel
theorem d_Unpacker_unrotate_183 : decode b_Unpacker_unrotate 183 = .ok (.getfield 20, 3) := by decide +kernel
theorem d_Unpacker_unrotate_186 : decode b_Unpacker_unrotate 186 = .ok (.bipush 11, 2) := by decide +kernel
theorem d_Unpacker_unrotate_188 : decode b_Unpacker_unrotate 188 = .ok (.aload_n 0, 1) := by decide +kernel
theorem d_Unpacker_unrotate_189 : decode b_Unpacker_unrotate 189 = .ok (.getfield 83, 3) := by decide +kernel
theorem d_Unpacker_unrotate_192 : decode b_Unpacker_unrotate 192 = .ok (.invokevirtual 96, 3) := by decide +kernel
theorem d_Unpacker_unrotate_195 : decode b_Unpacker_unrotate 195 = .ok (.ireturn, 1) := by decide +kernel
theorem d_Unpacker_unrotate_196 : decode b_Unpacker_unrotate 196 = .ok (.aload_n 0, 1) := by decide +kernel
theorem d_Unpacker_unrotate_197 : decode b_Unpacker_unrotate 197 = .ok (.getfield 27, 3) := by decide +kernel
theorem d_Unpacker_unrotate_200 : decode b_Unpacker_unrotate 200 = .ok (.invokevirtual 214, 3) := by decide +kernel
theorem d_Unpacker_unrotate_203 : decode b_Unpacker_unrotate 203 = .ok (.aload_n 0, 1) := by decide +kernel
theorem d_Unpacker_unrotate_204 : decode b_Unpacker_unrotate 204 = .ok (.getfield 106, 3) := by decide +kernel
theorem d_Unpacker_unrotate_207 : decode b_Unpacker_unrotate 207 = .ok (.if_icmp .eq 19, 3) := by decide +kernel
theorem d_Unpacker_unrotate_210 : decode b_Unpacker_unrotate 210 = .ok (.aload_n 0, 1) := by decide +kernel
theorem d_Unpacker_unrotate_211 : decode b_Unpacker_unrotate 211 = .ok (.getfield 20, 3) := by decide +kernel
theorem d_Unpacker_unrotate_214 : decode b_Unpacker_unrotate 214 = .ok (.bipush 13, 2) := by decide +kernel
theorem d_Unpacker_unrotate_216 : decode b_Unpacker_unrotate 216 = .ok (.aload_n 0, 1) := by decide +kernel
theorem d_Unpacker_unrotate_217 : decode b_Unpacker_unrotate 217 = .ok (.getfield 83, 3) := by decide +kernel
theorem d_Unpacker_unrotate_220 : decode b_Unpacker_unrotate 220 = .ok (.invokevirtual 96, 3) := by decide +kernel
theorem d_Unpacker_unrotate_223 : decode b_Unpacker_unrotate 223 = .ok (.ifCond .eq 7, 3) := by decide +kernel
theorem d_Unpacker_unrotate_226 : decode b_Unpacker_unrotate 226 = .ok (.iconst 1, 1) := by decide +kernel
theorem d_Unpacker_unrotate_227 : decode b_Unpacker_unrotate 227 = .ok (.goto 4, 3) := by decide +kernel
theorem d_Unpacker_unrotate_230 : decode b_Unpacker_unrotate 230 = .ok (.iconst 0, 1) := by decide +kernel
theorem d_Unpacker_unrotate_231 : decode b_Unpacker_unrotate 231 = .ok (.ireturn, 1) := by decide +kernel
theorem k367 : (Jvm.Cond.fieldLink "RotationPress$Unpacker" (48 : Nat) "RotationPress$Unpacker" "nexts" "[I") ∈ g_tbl := List.mem_filter.mpr ⟨List.mem_append_right (k2_sels lw_privs) (List.mem_append_right _ (List.mem_append_left _ (List.mem_of_getElem? (l := tables_1_2) (i := 127) rfl))), rfl⟩
theorem k368 : (Jvm.Cond.fieldLink "RotationPress$Unpacker" (51 : Nat) "RotationPress$Unpacker" "slots" "[I") ∈ g_tbl := List.mem_filter.mpr ⟨List.mem_append_right (k2_sels lw_privs) (List.mem_append_right _ (List.mem_append_left _ (List.mem_of_getElem? (l := tables_1_2) (i := 128) rfl))), rfl⟩
theorem k1172 : (Jvm.Cond.methodLink "RotationPress$Unpacker" (204 : Nat) ({ cls := "RotationPress$Rotations", name := "sortByByte", desc := "([II[I[I)V" } : Jvm.MethodName)) ∈ g_tbl := List.mem_filter.mpr ⟨List.mem_append_right (k2_sels lw_privs) (List.mem_append_right _ (List.mem_append_right _ (List.mem_append_right _ (List.mem_append_right _ (List.mem_append_left _ (List.mem_of_getElem? (l := tables_1_5) (i := 212) rfl)))))), rfl⟩
theorem k1173 : (Jvm.Cond.methodLink "RotationPress$Unpacker" (210 : Nat) ({ cls := "RotationPress$Check", name := "begin", desc := "()V" } : Jvm.MethodName)) ∈ g_tbl := List.mem_filter.mpr ⟨List.mem_append_right (k2_sels lw_privs) (List.mem_append_right _ (List.mem_append_right _ (List.mem_append_right _ (List.mem_append_right _ (List.mem_append_left _ (List.mem_of_getElem? (l := tables_1_5) (i := 213) rfl)))))), rfl⟩
theorem k1180 : (Jvm.Cond.methodLink "RotationPress$Unpacker" (214 : Nat) ({ cls := "RotationPress$Check", name := "ofBlock", desc := "()I" } : Jvm.MethodName)) ∈ g_tbl := List.mem_filter.mpr ⟨List.mem_append_right (k2_sels lw_privs) (List.mem_append_right _ (List.mem_append_right _ (List.mem_append_right _ (List.mem_append_right _ (List.mem_append_left _ (List.mem_of_getElem? (l := tables_1_5) (i := 220) rfl)))))), rfl⟩
theorem k1177 : (Jvm.Cond.code ({ cls := "RotationPress$Unpacker", name := "giveOut", desc := "(II)Z" } : Jvm.MethodName) prog_12_method_19_code (4 : Nat) (Option.some Jvm.ClassFile.FieldType.boolean)) ∈ g_tbl := List.mem_filter.mpr ⟨List.mem_append_right (k2_sels lw_privs) (List.mem_append_right _ (List.mem_append_right _ (List.mem_append_right _ (List.mem_append_right _ (List.mem_append_left _ (List.mem_of_getElem? (l := tables_1_5) (i := 217) rfl)))))), rfl⟩
theorem k1174 : (Jvm.Cond.methodLink "RotationPress$Unpacker" (211 : Nat) ({ cls := "RotationPress$Unpacker", name := "giveOut", desc := "(II)Z" } : Jvm.MethodName)) ∈ g_tbl := List.mem_filter.mpr ⟨List.mem_append_right (k2_sels lw_privs) (List.mem_append_right _ (List.mem_append_right _ (List.mem_append_right _ (List.mem_append_right _ (List.mem_append_left _ (List.mem_of_getElem? (l := tables_1_5) (i := 214) rfl)))))), rfl⟩
theorem k1176 : (Jvm.Cond.instanceMethod ({ cls := "RotationPress$Unpacker", name := "giveOut", desc := "(II)Z" } : Jvm.MethodName)) ∈ g_tbl := List.mem_filter.mpr ⟨List.mem_append_right (k2_sels lw_privs) (List.mem_append_right _ (List.mem_append_right _ (List.mem_append_right _ (List.mem_append_right _ (List.mem_append_left _ (List.mem_of_getElem? (l := tables_1_5) (i := 216) rfl)))))), rfl⟩
theorem ks35 : (Jvm.Cond.selects "RotationPress$Unpacker" ({ cls := "RotationPress$Unpacker", name := "giveOut", desc := "(II)Z" } : Jvm.MethodName) ({ cls := "RotationPress$Unpacker", name := "giveOut", desc := "(II)Z" } : Jvm.MethodName)) ∈ g_tbl := List.mem_filter.mpr ⟨List.mem_append_left _ (List.mem_map.mpr ⟨(({ cls := "RotationPress$Unpacker", name := "giveOut", desc := "(II)Z" } : Jvm.MethodName), _), List.mem_of_getElem? (i := 35) rfl, rfl⟩), rfl⟩
theorem Unpacker_unrotate_J231_mo {j231_0 : Int32} {j231_1 : (Nat → Int32)} {j231_2 : (Nat → Int32)} {j231_3 : Int32} {j231_4 : Int32} {j231_5 : Int32} {j231_6 : Nat} {j231_7 : (Nat → Int32)} {j231_8 : Int32} {o : (Int32 × (Nat → Int32) × (Nat → Int32) × Int32 × Int32 × Int32 × Nat × (Nat → Int32) × Int32)} (h : Unpacker_unrotate_J231 j231_0 j231_1 j231_2 j231_3 j231_4 j231_5 j231_6 j231_7 j231_8 = some o) : j231_6 ≤ (fun (o : (Int32 × (Nat → Int32) × (Nat → Int32) × Int32 × Int32 × Int32 × Nat × (Nat → Int32) × Int32)) => o.2.2.2.2.2.2.1) o := by
  unfold Unpacker_unrotate_J231 at h
  obtain ⟨_, h⟩ := gd_some h
  exact mo_leaf (L := (fun (o : (Int32 × (Nat → Int32) × (Nat → Int32) × Int32 × Int32 × Int32 × Nat × (Nat → Int32) × Int32)) => o.2.2.2.2.2.2.1)) h (show j231_6 ≤ j231_6 by omega)
theorem Unpacker_unrotate_J226_mo {j226_0 : (Nat → Int32)} {j226_1 : (Nat → Int32)} {j226_2 : Int32} {j226_3 : Int32} {j226_4 : Int32} {j226_5 : Nat} {j226_6 : (Nat → Int32)} {j226_7 : Int32} {o : (Int32 × (Nat → Int32) × (Nat → Int32) × Int32 × Int32 × Int32 × Nat × (Nat → Int32) × Int32)} (h : Unpacker_unrotate_J226 j226_0 j226_1 j226_2 j226_3 j226_4 j226_5 j226_6 j226_7 = some o) : j226_5 ≤ (fun (o : (Int32 × (Nat → Int32) × (Nat → Int32) × Int32 × Int32 × Int32 × Nat × (Nat → Int32) × Int32)) => o.2.2.2.2.2.2.1) o := by
  unfold Unpacker_unrotate_J226 at h
  exact Nat.le_trans (show j226_5 ≤ j226_5 by omega) (Unpacker_unrotate_J231_mo h)
theorem Unpacker_unrotate_J171_mo {s4 : (Int32 × Int32 × Int32 × Int32 × Int32 × Nat × (Nat → Int32) × Int32)} {j171_0 : Int32} {j171_1 : Int32} {j171_2 : Int32} {j171_3 : Int32} {j171_4 : Nat} {j171_5 : (Nat → Int32)} {j171_6 : Int32} {o : ((Int32 × Int32 × Int32 × Int32 × Int32 × Nat × (Nat → Int32) × Int32) ⊕ ((Int32 × Nat × (Nat → Int32) × Int32) ⊕ ((Int32 × Nat × (Nat → Int32) × Int32) ⊕ (Int32 × Int32 × Nat × (Nat → Int32) × Int32))))} (h : Unpacker_unrotate_J171 s4 j171_0 j171_1 j171_2 j171_3 j171_4 j171_5 j171_6 = some o) : j171_4 ≤ (fun (w : (Int32 × Int32 × Int32 × Int32 × Int32 × Nat × (Nat → Int32) × Int32) ⊕ ((Int32 × Nat × (Nat → Int32) × Int32) ⊕ ((Int32 × Nat × (Nat → Int32) × Int32) ⊕ (Int32 × Int32 × Nat × (Nat → Int32) × Int32)))) => Sum.elim (fun (w : (Int32 × Int32 × Int32 × Int32 × Int32 × Nat × (Nat → Int32) × Int32)) => w.2.2.2.2.2.1) (Sum.elim (fun (w : (Int32 × Nat × (Nat → Int32) × Int32)) => w.2.1) (Sum.elim (fun (w : (Int32 × Nat × (Nat → Int32) × Int32)) => w.2.1) (fun (w : (Int32 × Int32 × Nat × (Nat → Int32) × Int32)) => w.2.2.1))) w) o := by
  unfold Unpacker_unrotate_J171 at h
  exact mo_leaf (L := (fun (w : (Int32 × Int32 × Int32 × Int32 × Int32 × Nat × (Nat → Int32) × Int32) ⊕ ((Int32 × Nat × (Nat → Int32) × Int32) ⊕ ((Int32 × Nat × (Nat → Int32) × Int32) ⊕ (Int32 × Int32 × Nat × (Nat → Int32) × Int32)))) => Sum.elim (fun (w : (Int32 × Int32 × Int32 × Int32 × Int32 × Nat × (Nat → Int32) × Int32)) => w.2.2.2.2.2.1) (Sum.elim (fun (w : (Int32 × Nat × (Nat → Int32) × Int32)) => w.2.1) (Sum.elim (fun (w : (Int32 × Nat × (Nat → Int32) × Int32)) => w.2.1) (fun (w : (Int32 × Int32 × Nat × (Nat → Int32) × Int32)) => w.2.2.1))) w)) h (show j171_4 ≤ j171_4 by omega)
theorem Unpacker_unrotate_J167_mo {s4 : (Int32 × Int32 × Int32 × Int32 × Int32 × Nat × (Nat → Int32) × Int32)} {j167_0 : Int32} {j167_1 : Int32} {j167_2 : Int32} {j167_3 : Int32} {j167_4 : Nat} {j167_5 : (Nat → Int32)} {j167_6 : Int32} {o : ((Int32 × Int32 × Int32 × Int32 × Int32 × Nat × (Nat → Int32) × Int32) ⊕ ((Int32 × Nat × (Nat → Int32) × Int32) ⊕ ((Int32 × Nat × (Nat → Int32) × Int32) ⊕ (Int32 × Int32 × Nat × (Nat → Int32) × Int32))))} (h : Unpacker_unrotate_J167 s4 j167_0 j167_1 j167_2 j167_3 j167_4 j167_5 j167_6 = some o) : j167_4 ≤ (fun (w : (Int32 × Int32 × Int32 × Int32 × Int32 × Nat × (Nat → Int32) × Int32) ⊕ ((Int32 × Nat × (Nat → Int32) × Int32) ⊕ ((Int32 × Nat × (Nat → Int32) × Int32) ⊕ (Int32 × Int32 × Nat × (Nat → Int32) × Int32)))) => Sum.elim (fun (w : (Int32 × Int32 × Int32 × Int32 × Int32 × Nat × (Nat → Int32) × Int32)) => w.2.2.2.2.2.1) (Sum.elim (fun (w : (Int32 × Nat × (Nat → Int32) × Int32)) => w.2.1) (Sum.elim (fun (w : (Int32 × Nat × (Nat → Int32) × Int32)) => w.2.1) (fun (w : (Int32 × Int32 × Nat × (Nat → Int32) × Int32)) => w.2.2.1))) w) o := by
  unfold Unpacker_unrotate_J167 at h
  exact Nat.le_trans (show j167_4 ≤ j167_4 by omega) (Unpacker_unrotate_J171_mo h)
theorem Unpacker_unrotate_J124_mo {s4 : (Int32 × Int32 × Int32 × Int32 × Int32 × Nat × (Nat → Int32) × Int32)} {x_a0_limit : Int32} {f_a0_check_leaves : (Nat → Int32)} {j124_0 : Int32} {j124_1 : Int32} {j124_2 : Int32} {j124_3 : Int32} {j124_4 : Int32} {o : ((Int32 × Int32 × Int32 × Int32 × Int32 × Nat × (Nat → Int32) × Int32) ⊕ ((Int32 × Nat × (Nat → Int32) × Int32) ⊕ ((Int32 × Nat × (Nat → Int32) × Int32) ⊕ (Int32 × Int32 × Nat × (Nat → Int32) × Int32))))} (h : Unpacker_unrotate_J124 s4 x_a0_limit f_a0_check_leaves j124_0 j124_1 j124_2 j124_3 j124_4 = some o) : s4.2.2.2.2.2.1 ≤ (fun (w : (Int32 × Int32 × Int32 × Int32 × Int32 × Nat × (Nat → Int32) × Int32) ⊕ ((Int32 × Nat × (Nat → Int32) × Int32) ⊕ ((Int32 × Nat × (Nat → Int32) × Int32) ⊕ (Int32 × Int32 × Nat × (Nat → Int32) × Int32)))) => Sum.elim (fun (w : (Int32 × Int32 × Int32 × Int32 × Int32 × Nat × (Nat → Int32) × Int32)) => w.2.2.2.2.2.1) (Sum.elim (fun (w : (Int32 × Nat × (Nat → Int32) × Int32)) => w.2.1) (Sum.elim (fun (w : (Int32 × Nat × (Nat → Int32) × Int32)) => w.2.1) (fun (w : (Int32 × Int32 × Nat × (Nat → Int32) × Int32)) => w.2.2.1))) w) o := by
  unfold Unpacker_unrotate_J124 at h
  obtain ⟨u21, hu21, h⟩ := bd_some h
  have lu21 : s4.2.2.2.2.2.1 ≤ u21.2.1 := Unpacker_giveOut_f_mo hu21
  by_cases c22 : u21.1 = 0
  · have h := it_t c22 h
    exact mo_leaf (L := (fun (w : (Int32 × Int32 × Int32 × Int32 × Int32 × Nat × (Nat → Int32) × Int32) ⊕ ((Int32 × Nat × (Nat → Int32) × Int32) ⊕ ((Int32 × Nat × (Nat → Int32) × Int32) ⊕ (Int32 × Int32 × Nat × (Nat → Int32) × Int32)))) => Sum.elim (fun (w : (Int32 × Int32 × Int32 × Int32 × Int32 × Nat × (Nat → Int32) × Int32)) => w.2.2.2.2.2.1) (Sum.elim (fun (w : (Int32 × Nat × (Nat → Int32) × Int32)) => w.2.1) (Sum.elim (fun (w : (Int32 × Nat × (Nat → Int32) × Int32)) => w.2.1) (fun (w : (Int32 × Int32 × Nat × (Nat → Int32) × Int32)) => w.2.2.1))) w)) h (show s4.2.2.2.2.2.1 ≤ u21.2.1 by omega)
  · have h := it_f c22 h
    by_cases c23 : j124_2 = 0
    · have h := it_t c23 h
      by_cases c24 : j124_1 = s4.2.1
      · have h := it_t c24 h
        exact Nat.le_trans (show s4.2.2.2.2.2.1 ≤ u21.2.1 by omega) (Unpacker_unrotate_J167_mo h)
      · have h := it_f c24 h
        exact Nat.le_trans (show s4.2.2.2.2.2.1 ≤ u21.2.1 by omega) (Unpacker_unrotate_J167_mo h)
    · have h := it_f c23 h
      exact Nat.le_trans (show s4.2.2.2.2.2.1 ≤ u21.2.1 by omega) (Unpacker_unrotate_J171_mo h)
theorem Unpacker_unrotate_J113_mo {s4 : (Int32 × Int32 × Int32 × Int32 × Int32 × Nat × (Nat → Int32) × Int32)} {x_a0_limit : Int32} {f_a0_check_leaves : (Nat → Int32)} {j113_0 : Int32} {j113_1 : Int32} {j113_2 : Int32} {j113_3 : Int32} {o : ((Int32 × Int32 × Int32 × Int32 × Int32 × Nat × (Nat → Int32) × Int32) ⊕ ((Int32 × Nat × (Nat → Int32) × Int32) ⊕ ((Int32 × Nat × (Nat → Int32) × Int32) ⊕ (Int32 × Int32 × Nat × (Nat → Int32) × Int32))))} (h : Unpacker_unrotate_J113 s4 x_a0_limit f_a0_check_leaves j113_0 j113_1 j113_2 j113_3 = some o) : s4.2.2.2.2.2.1 ≤ (fun (w : (Int32 × Int32 × Int32 × Int32 × Int32 × Nat × (Nat → Int32) × Int32) ⊕ ((Int32 × Nat × (Nat → Int32) × Int32) ⊕ ((Int32 × Nat × (Nat → Int32) × Int32) ⊕ (Int32 × Int32 × Nat × (Nat → Int32) × Int32)))) => Sum.elim (fun (w : (Int32 × Int32 × Int32 × Int32 × Int32 × Nat × (Nat → Int32) × Int32)) => w.2.2.2.2.2.1) (Sum.elim (fun (w : (Int32 × Nat × (Nat → Int32) × Int32)) => w.2.1) (Sum.elim (fun (w : (Int32 × Nat × (Nat → Int32) × Int32)) => w.2.1) (fun (w : (Int32 × Int32 × Nat × (Nat → Int32) × Int32)) => w.2.2.1))) w) o := by
  unfold Unpacker_unrotate_J113 at h
  by_cases c25 : j113_2 = 0
  · have h := it_t c25 h
    exact Nat.le_trans (show s4.2.2.2.2.2.1 ≤ s4.2.2.2.2.2.1 by omega) (Unpacker_unrotate_J124_mo h)
  · have h := it_f c25 h
    exact Nat.le_trans (show s4.2.2.2.2.2.1 ≤ s4.2.2.2.2.2.1 by omega) (Unpacker_unrotate_J124_mo h)
theorem Unpacker_unrotate_J101_mo {s4 : (Int32 × Int32 × Int32 × Int32 × Int32 × Nat × (Nat → Int32) × Int32)} {x_a0_limit : Int32} {f_a0_check_leaves : (Nat → Int32)} {j101_0 : Int32} {j101_1 : Int32} {j101_2 : Int32} {o : ((Int32 × Int32 × Int32 × Int32 × Int32 × Nat × (Nat → Int32) × Int32) ⊕ ((Int32 × Nat × (Nat → Int32) × Int32) ⊕ ((Int32 × Nat × (Nat → Int32) × Int32) ⊕ (Int32 × Int32 × Nat × (Nat → Int32) × Int32))))} (h : Unpacker_unrotate_J101 s4 x_a0_limit f_a0_check_leaves j101_0 j101_1 j101_2 = some o) : s4.2.2.2.2.2.1 ≤ (fun (w : (Int32 × Int32 × Int32 × Int32 × Int32 × Nat × (Nat → Int32) × Int32) ⊕ ((Int32 × Nat × (Nat → Int32) × Int32) ⊕ ((Int32 × Nat × (Nat → Int32) × Int32) ⊕ (Int32 × Int32 × Nat × (Nat → Int32) × Int32)))) => Sum.elim (fun (w : (Int32 × Int32 × Int32 × Int32 × Int32 × Nat × (Nat → Int32) × Int32)) => w.2.2.2.2.2.1) (Sum.elim (fun (w : (Int32 × Nat × (Nat → Int32) × Int32)) => w.2.1) (Sum.elim (fun (w : (Int32 × Nat × (Nat → Int32) × Int32)) => w.2.1) (fun (w : (Int32 × Int32 × Nat × (Nat → Int32) × Int32)) => w.2.2.1))) w) o := by
  unfold Unpacker_unrotate_J101 at h
  by_cases c26 : j101_2 = 0
  · have h := it_t c26 h
    exact Nat.le_trans (show s4.2.2.2.2.2.1 ≤ s4.2.2.2.2.2.1 by omega) (Unpacker_unrotate_J113_mo h)
  · have h := it_f c26 h
    exact Nat.le_trans (show s4.2.2.2.2.2.1 ≤ s4.2.2.2.2.2.1 by omega) (Unpacker_unrotate_J113_mo h)
theorem Unpacker_unrotate_J72_mo {s4 : (Int32 × Int32 × Int32 × Int32 × Int32 × Nat × (Nat → Int32) × Int32)} {x_a0_limit : Int32} {f_a0_check_leaves : (Nat → Int32)} {j72_0 : Int32} {j72_1 : Int32} {j72_2 : Int32} {o : ((Int32 × Int32 × Int32 × Int32 × Int32 × Nat × (Nat → Int32) × Int32) ⊕ ((Int32 × Nat × (Nat → Int32) × Int32) ⊕ ((Int32 × Nat × (Nat → Int32) × Int32) ⊕ (Int32 × Int32 × Nat × (Nat → Int32) × Int32))))} (h : Unpacker_unrotate_J72 s4 x_a0_limit f_a0_check_leaves j72_0 j72_1 j72_2 = some o) : s4.2.2.2.2.2.1 ≤ (fun (w : (Int32 × Int32 × Int32 × Int32 × Int32 × Nat × (Nat → Int32) × Int32) ⊕ ((Int32 × Nat × (Nat → Int32) × Int32) ⊕ ((Int32 × Nat × (Nat → Int32) × Int32) ⊕ (Int32 × Int32 × Nat × (Nat → Int32) × Int32)))) => Sum.elim (fun (w : (Int32 × Int32 × Int32 × Int32 × Int32 × Nat × (Nat → Int32) × Int32)) => w.2.2.2.2.2.1) (Sum.elim (fun (w : (Int32 × Nat × (Nat → Int32) × Int32)) => w.2.1) (Sum.elim (fun (w : (Int32 × Nat × (Nat → Int32) × Int32)) => w.2.1) (fun (w : (Int32 × Int32 × Nat × (Nat → Int32) × Int32)) => w.2.2.1))) w) o := by
  unfold Unpacker_unrotate_J72 at h
  by_cases c27 : j72_2 = 0
  · have h := it_t c27 h
    exact Nat.le_trans (show s4.2.2.2.2.2.1 ≤ s4.2.2.2.2.2.1 by omega) (Unpacker_unrotate_J101_mo h)
  · have h := it_f c27 h
    by_cases c28 : j72_1 ≤ (251 : Int32)
    · have h := it_t c28 h
      exact Nat.le_trans (show s4.2.2.2.2.2.1 ≤ s4.2.2.2.2.2.1 by omega) (Unpacker_unrotate_J101_mo h)
    · have h := it_f c28 h
      exact mo_leaf (L := (fun (w : (Int32 × Int32 × Int32 × Int32 × Int32 × Nat × (Nat → Int32) × Int32) ⊕ ((Int32 × Nat × (Nat → Int32) × Int32) ⊕ ((Int32 × Nat × (Nat → Int32) × Int32) ⊕ (Int32 × Int32 × Nat × (Nat → Int32) × Int32)))) => Sum.elim (fun (w : (Int32 × Int32 × Int32 × Int32 × Int32 × Nat × (Nat → Int32) × Int32)) => w.2.2.2.2.2.1) (Sum.elim (fun (w : (Int32 × Nat × (Nat → Int32) × Int32)) => w.2.1) (Sum.elim (fun (w : (Int32 × Nat × (Nat → Int32) × Int32)) => w.2.1) (fun (w : (Int32 × Int32 × Nat × (Nat → Int32) × Int32)) => w.2.2.1))) w)) h (show s4.2.2.2.2.2.1 ≤ s4.2.2.2.2.2.1 by omega)
theorem Unpacker_unrotate_L38_mo {x_a0_lastCount : Int32} {u2 : ((Nat → Int32) × (Nat → Int32))} {x_a0_limit : Int32} {f_a0_check_leaves : (Nat → Int32)} {f_a0_last : (Nat → Int32)} {s4 : (Int32 × Int32 × Int32 × Int32 × Int32 × Nat × (Nat → Int32) × Int32)} {o : ((Int32 × Int32 × Int32 × Int32 × Int32 × Nat × (Nat → Int32) × Int32) ⊕ ((Int32 × Nat × (Nat → Int32) × Int32) ⊕ ((Int32 × Nat × (Nat → Int32) × Int32) ⊕ (Int32 × Int32 × Nat × (Nat → Int32) × Int32))))} (h : Unpacker_unrotate_L38 x_a0_lastCount u2 x_a0_limit f_a0_check_leaves f_a0_last s4 = some o) : s4.2.2.2.2.2.1 ≤ (fun (w : (Int32 × Int32 × Int32 × Int32 × Int32 × Nat × (Nat → Int32) × Int32) ⊕ ((Int32 × Nat × (Nat → Int32) × Int32) ⊕ ((Int32 × Nat × (Nat → Int32) × Int32) ⊕ (Int32 × Int32 × Nat × (Nat → Int32) × Int32)))) => Sum.elim (fun (w : (Int32 × Int32 × Int32 × Int32 × Int32 × Nat × (Nat → Int32) × Int32)) => w.2.2.2.2.2.1) (Sum.elim (fun (w : (Int32 × Nat × (Nat → Int32) × Int32)) => w.2.1) (Sum.elim (fun (w : (Int32 × Nat × (Nat → Int32) × Int32)) => w.2.1) (fun (w : (Int32 × Int32 × Nat × (Nat → Int32) × Int32)) => w.2.2.1))) w) o := by
  unfold Unpacker_unrotate_L38 at h
  by_cases c29 : x_a0_lastCount ≤ s4.2.2.2.1
  · have h := it_t c29 h
    exact mo_leaf (L := (fun (w : (Int32 × Int32 × Int32 × Int32 × Int32 × Nat × (Nat → Int32) × Int32) ⊕ ((Int32 × Nat × (Nat → Int32) × Int32) ⊕ ((Int32 × Nat × (Nat → Int32) × Int32) ⊕ (Int32 × Int32 × Nat × (Nat → Int32) × Int32)))) => Sum.elim (fun (w : (Int32 × Int32 × Int32 × Int32 × Int32 × Nat × (Nat → Int32) × Int32)) => w.2.2.2.2.2.1) (Sum.elim (fun (w : (Int32 × Nat × (Nat → Int32) × Int32)) => w.2.1) (Sum.elim (fun (w : (Int32 × Nat × (Nat → Int32) × Int32)) => w.2.1) (fun (w : (Int32 × Int32 × Nat × (Nat → Int32) × Int32)) => w.2.2.1))) w)) h (show s4.2.2.2.2.2.1 ≤ s4.2.2.2.2.2.1 by omega)
  · have h := it_f c29 h
    obtain ⟨_, h⟩ := gd_some h
    obtain ⟨_, h⟩ := gd_some h
    by_cases c32 : s4.1 = (4 : Int32)
    · have h := it_t c32 h
      exact Nat.le_trans (show s4.2.2.2.2.2.1 ≤ s4.2.2.2.2.2.1 by omega) (Unpacker_unrotate_J72_mo h)
    · have h := it_f c32 h
      exact Nat.le_trans (show s4.2.2.2.2.2.1 ≤ s4.2.2.2.2.2.1 by omega) (Unpacker_unrotate_J72_mo h)
theorem Unpacker_unrotate_f_mo {f_a0_slots : (Nat → Int32)} {x_a0_lastCount : Int32} {f_a0_last : (Nat → Int32)} {f_a0_nexts : (Nat → Int32)} {x_a0_limit : Int32} {f_a0_check_leaves : (Nat → Int32)} {x_a0_origin : Int32} {n_a0_row_bytes : Nat} {f_a0_row_bytes : (Nat → Int32)} {x_a0_row_count : Int32} {x_a0_blockAt : Int32} {x_a0_blockCheck : Int32} {x_a0_reader_fault : Int32} {x_a0_reader_faultAt : Int32} {o : (Int32 × (Nat → Int32) × (Nat → Int32) × Int32 × Int32 × Int32 × Nat × (Nat → Int32) × Int32)} (h : Unpacker_unrotate_f f_a0_slots x_a0_lastCount f_a0_last f_a0_nexts x_a0_limit f_a0_check_leaves x_a0_origin n_a0_row_bytes f_a0_row_bytes x_a0_row_count x_a0_blockAt x_a0_blockCheck x_a0_reader_fault x_a0_reader_faultAt = some o) : n_a0_row_bytes ≤ (fun (o : (Int32 × (Nat → Int32) × (Nat → Int32) × Int32 × Int32 × Int32 × Nat × (Nat → Int32) × Int32)) => o.2.2.2.2.2.2.1) o := by
  unfold Unpacker_unrotate_f at h
  obtain ⟨u2, hu2, h⟩ := bd_some h
  obtain ⟨u3, hu3, h⟩ := bd_some h
  obtain ⟨u5, hu5, h⟩ := bd_some h
  have lu5 : n_a0_row_bytes ≤ (Sum.elim (fun (w : (Int32 × Nat × (Nat → Int32) × Int32)) => w.2.1) (Sum.elim (fun (w : (Int32 × Nat × (Nat → Int32) × Int32)) => w.2.1) (fun (w : (Int32 × Int32 × Nat × (Nat → Int32) × Int32)) => w.2.2.1))) u5 := lp_mo (b := (Unpacker_unrotate_L38 x_a0_lastCount u2 x_a0_limit f_a0_check_leaves f_a0_last)) (m := (fun (w : (Int32 × Int32 × Int32 × Int32 × Int32 × Nat × (Nat → Int32) × Int32)) => w.2.2.2.2.2.1)) (me := (Sum.elim (fun (w : (Int32 × Nat × (Nat → Int32) × Int32)) => w.2.1) (Sum.elim (fun (w : (Int32 × Nat × (Nat → Int32) × Int32)) => w.2.1) (fun (w : (Int32 × Int32 × Nat × (Nat → Int32) × Int32)) => w.2.2.1)))) (fun w u hb => Unpacker_unrotate_L38_mo hb) ((0 : Int32), (-1 : Int32), x_a0_origin, (0 : Int32), u3, n_a0_row_bytes, f_a0_row_bytes, x_a0_row_count) hu5
  rcases u5 with v6 | w0u5
  · have h := el_l h
    have lu5 : n_a0_row_bytes ≤ v6.2.1 := lu5
    obtain ⟨u7, hu7, h⟩ := bd_some h
    obtain ⟨_, h⟩ := gd_some h
    exact mo_leaf (L := (fun (o : (Int32 × (Nat → Int32) × (Nat → Int32) × Int32 × Int32 × Int32 × Nat × (Nat → Int32) × Int32)) => o.2.2.2.2.2.2.1)) h (show n_a0_row_bytes ≤ v6.2.1 by omega)
  · have h := el_r h
    rcases w0u5 with v9 | v12
    · have h := el_l h
      have lu5 : n_a0_row_bytes ≤ v9.2.1 := lu5
      obtain ⟨u10, hu10, h⟩ := bd_some h
      obtain ⟨_, h⟩ := gd_some h
      exact mo_leaf (L := (fun (o : (Int32 × (Nat → Int32) × (Nat → Int32) × Int32 × Int32 × Int32 × Nat × (Nat → Int32) × Int32)) => o.2.2.2.2.2.2.1)) h (show n_a0_row_bytes ≤ v9.2.1 by omega)
    · have h := el_r h
      have lu5 : n_a0_row_bytes ≤ v12.2.2.1 := lu5
      by_cases c13 : v12.1 = (4 : Int32)
      · have h := it_t c13 h
        obtain ⟨u18, hu18, h⟩ := bd_some h
        obtain ⟨_, h⟩ := gd_some h
        exact mo_leaf (L := (fun (o : (Int32 × (Nat → Int32) × (Nat → Int32) × Int32 × Int32 × Int32 × Nat × (Nat → Int32) × Int32)) => o.2.2.2.2.2.2.1)) h (show n_a0_row_bytes ≤ v12.2.2.1 by omega)
      · have h := it_f c13 h
        obtain ⟨u14, hu14, h⟩ := bd_some h
        by_cases c15 : u14 = x_a0_blockCheck
        · have h := it_t c15 h
          exact Nat.le_trans (show n_a0_row_bytes ≤ v12.2.2.1 by omega) (Unpacker_unrotate_J226_mo h)
        · have h := it_f c15 h
          obtain ⟨u16, hu16, h⟩ := bd_some h
          by_cases c17 : u16.1 = 0
          · have h := it_t c17 h
            exact Nat.le_trans (show n_a0_row_bytes ≤ v12.2.2.1 by omega) (Unpacker_unrotate_J231_mo h)
          · have h := it_f c17 h
            exact Nat.le_trans (show n_a0_row_bytes ≤ v12.2.2.1 by omega) (Unpacker_unrotate_J226_mo h)
set_option maxRecDepth 100000 in
set_option maxHeartbeats 4000000 in
theorem m_Unpacker_unrotate {C : gT} (q_a0 : Nat) (q_a0_row : Nat) (q_a0_reader : Nat) (q_a0_check : Nat) (r_a0_list : Nat) (r_a0_tableList : Nat) (r_a0_tables : Nat) (r_a0_groupTables : Nat) (q_a0_last : Nat) (q_a0_nexts : Nat) (q_a0_slots : Nat) (x_a0_limit : Int32) (x_a0_most : Int32) (x_a0_blockAt : Int32) (x_a0_originAt : Int32) (x_a0_origin : Int32) (x_a0_blockCheck : Int32) (x_a0_tableCount : Int32) (x_a0_groupCount : Int32) (x_a0_lastCount : Int32) (f_a0_slots : (Nat → Int32)) (f_a0_last : (Nat → Int32)) (f_a0_nexts : (Nat → Int32)) (q_a0_check_leaves : Nat) (x_a0_check_bits : Int32) (r_a0_reader_row : Nat) (x_a0_reader_end : Int32) (x_a0_reader_at : Int32) (x_a0_reader_taken : Int32) (x_a0_reader_fault : Int32) (x_a0_reader_faultAt : Int32) (q_a0_row_bytes : Nat) (x_a0_row_count : Int32) (n_a0_row_bytes : Nat) (f_a0_row_bytes : (Nat → Int32)) (f_a0_check_leaves : (Nat → Int32)) (out : (Int32 × (Nat → Int32) × (Nat → Int32) × Int32 × Int32 × Int32 × Nat × (Nat → Int32) × Int32)) (hC : gOk C b_Unpacker_unrotate R_Unpacker { frames := 4, cells := out.2.2.2.2.2.2.1 - n_a0_row_bytes, slots := 2 * (out.2.2.2.2.2.2.1 - n_a0_row_bytes), locals := 111 } 7) (hf : Unpacker_unrotate_f f_a0_slots x_a0_lastCount f_a0_last f_a0_nexts x_a0_limit f_a0_check_leaves x_a0_origin n_a0_row_bytes f_a0_row_bytes x_a0_row_count x_a0_blockAt x_a0_blockCheck x_a0_reader_fault x_a0_reader_faultAt = some out) (kr : ∀ (x : Nat) (o9 : (Int32 × (Nat → Int32) × (Nat → Int32) × Int32 × Int32 × Int32 × Nat × (Nat → Int32) × Int32)) (pc : Nat) (lv : List (Nat × Value)), o9 = out → decode b_Unpacker_unrotate pc = .ok (.ireturn, 1) → narrow .boolean (.int o9.1) = .int o9.1 → gAt C (o9.2.2.2.2.2.2.1 - n_a0_row_bytes) (2 * (o9.2.2.2.2.2.2.1 - n_a0_row_bytes)) [(q_a0, .inr (11, [.ref q_a0_row, .ref q_a0_reader, .ref q_a0_check, .ref r_a0_list, .ref r_a0_tableList, .ref r_a0_tables, .ref r_a0_groupTables, .ref q_a0_last, .ref q_a0_nexts, .ref q_a0_slots, .int x_a0_limit, .int x_a0_most, .int x_a0_blockAt, .int x_a0_originAt, .int x_a0_origin, .int x_a0_blockCheck, .int x_a0_tableCount, .int x_a0_groupCount, .int x_a0_lastCount])), (q_a0_slots, .inl (g_K C 0, 257, .inl o9.2.1)), (q_a0_last, .inl (g_K C 0, 2250, .inl f_a0_last)), (q_a0_nexts, .inl (g_K C 0, 2250, .inl o9.2.2.1)), (q_a0_check, .inr (5, [.ref q_a0_check_leaves, .int o9.2.2.2.1])), (q_a0_reader, .inr (1, [.ref r_a0_reader_row, .int x_a0_reader_end, .int x_a0_reader_at, .int x_a0_reader_taken, .int o9.2.2.2.2.1, .int o9.2.2.2.2.2.1])), (q_a0_row, .inr (4, [.ref x, .int o9.2.2.2.2.2.2.2.2])), (x, .inl (g_K C 0, o9.2.2.2.2.2.2.1, .inl o9.2.2.2.2.2.2.2.1)), (q_a0_check_leaves, .inl (g_K C 0, 256, .inl f_a0_check_leaves))] lv pc [.int o9.1]) : gAt C 0 0 [(q_a0, .inr (11, [.ref q_a0_row, .ref q_a0_reader, .ref q_a0_check, .ref r_a0_list, .ref r_a0_tableList, .ref r_a0_tables, .ref r_a0_groupTables, .ref q_a0_last, .ref q_a0_nexts, .ref q_a0_slots, .int x_a0_limit, .int x_a0_most, .int x_a0_blockAt, .int x_a0_originAt, .int x_a0_origin, .int x_a0_blockCheck, .int x_a0_tableCount, .int x_a0_groupCount, .int x_a0_lastCount])), (q_a0_slots, .inl (g_K C 0, 257, .inl f_a0_slots)), (q_a0_last, .inl (g_K C 0, 2250, .inl f_a0_last)), (q_a0_nexts, .inl (g_K C 0, 2250, .inl f_a0_nexts)), (q_a0_check, .inr (5, [.ref q_a0_check_leaves, .int x_a0_check_bits])), (q_a0_reader, .inr (1, [.ref r_a0_reader_row, .int x_a0_reader_end, .int x_a0_reader_at, .int x_a0_reader_taken, .int x_a0_reader_fault, .int x_a0_reader_faultAt])), (q_a0_row, .inr (4, [.ref q_a0_row_bytes, .int x_a0_row_count])), (q_a0_row_bytes, .inl (g_K C 0, n_a0_row_bytes, .inl f_a0_row_bytes)), (q_a0_check_leaves, .inl (g_K C 0, 256, .inl f_a0_check_leaves))] [(0, .ref q_a0)] 0 [] := by
  have hle : n_a0_row_bytes ≤ n_a0_row_bytes := Nat.le_refl _
  have hfi : n_a0_row_bytes ≤ out.2.2.2.2.2.2.1 := Unpacker_unrotate_f_mo hf
  refine g_wide (n_a0_row_bytes - n_a0_row_bytes) (2 * (n_a0_row_bytes - n_a0_row_bytes)) (Nat.zero_le _) (Nat.zero_le _) ?_
  unfold Unpacker_unrotate_f at hf
  have J231 : ∀ (j231_0 : Int32) (j231_1 : (Nat → Int32)) (j231_2 : (Nat → Int32)) (j231_3 : Int32) (j231_4 : Int32) (j231_5 : Int32) (j231_6 : Nat) (j231_7 : (Nat → Int32)) (j231_8 : Int32) (y231_a0_row_bytes : Nat), n_a0_row_bytes ≤ j231_6 → Unpacker_unrotate_J231 j231_0 j231_1 j231_2 j231_3 j231_4 j231_5 j231_6 j231_7 j231_8 = some out → gAt C (j231_6 - n_a0_row_bytes) (2 * (j231_6 - n_a0_row_bytes)) [(q_a0, .inr (11, [.ref q_a0_row, .ref q_a0_reader, .ref q_a0_check, .ref r_a0_list, .ref r_a0_tableList, .ref r_a0_tables, .ref r_a0_groupTables, .ref q_a0_last, .ref q_a0_nexts, .ref q_a0_slots, .int x_a0_limit, .int x_a0_most, .int x_a0_blockAt, .int x_a0_originAt, .int x_a0_origin, .int x_a0_blockCheck, .int x_a0_tableCount, .int x_a0_groupCount, .int x_a0_lastCount])), (q_a0_slots, .inl (g_K C 0, 257, .inl j231_1)), (q_a0_last, .inl (g_K C 0, 2250, .inl f_a0_last)), (q_a0_nexts, .inl (g_K C 0, 2250, .inl j231_2)), (q_a0_check, .inr (5, [.ref q_a0_check_leaves, .int j231_3])), (q_a0_reader, .inr (1, [.ref r_a0_reader_row, .int x_a0_reader_end, .int x_a0_reader_at, .int x_a0_reader_taken, .int j231_4, .int j231_5])), (q_a0_row, .inr (4, [.ref y231_a0_row_bytes, .int j231_8])), (y231_a0_row_bytes, .inl (g_K C 0, j231_6, .inl j231_7)), (q_a0_check_leaves, .inl (g_K C 0, 256, .inl f_a0_check_leaves))] [] 231 [.int j231_0] := by
    intro j231_0 j231_1 j231_2 j231_3 j231_4 j231_5 j231_6 j231_7 j231_8 y231_a0_row_bytes hle hf
    have hfi : j231_6 ≤ out.2.2.2.2.2.2.1 := by
      exact Unpacker_unrotate_J231_mo hf
    unfold Unpacker_unrotate_J231 at hf
    obtain ⟨e1, hf⟩ := gd_some hf
    exact kr y231_a0_row_bytes (j231_0, j231_1, j231_2, j231_3, j231_4, j231_5, j231_6, j231_7, j231_8) 231 [] (Option.some.inj hf) d_Unpacker_unrotate_231 (bl_nar e1)
  have J226 : ∀ (j226_0 : (Nat → Int32)) (j226_1 : (Nat → Int32)) (j226_2 : Int32) (j226_3 : Int32) (j226_4 : Int32) (j226_5 : Nat) (j226_6 : (Nat → Int32)) (j226_7 : Int32) (y226_a0_row_bytes : Nat), n_a0_row_bytes ≤ j226_5 → Unpacker_unrotate_J226 j226_0 j226_1 j226_2 j226_3 j226_4 j226_5 j226_6 j226_7 = some out → gAt C (j226_5 - n_a0_row_bytes) (2 * (j226_5 - n_a0_row_bytes)) [(q_a0, .inr (11, [.ref q_a0_row, .ref q_a0_reader, .ref q_a0_check, .ref r_a0_list, .ref r_a0_tableList, .ref r_a0_tables, .ref r_a0_groupTables, .ref q_a0_last, .ref q_a0_nexts, .ref q_a0_slots, .int x_a0_limit, .int x_a0_most, .int x_a0_blockAt, .int x_a0_originAt, .int x_a0_origin, .int x_a0_blockCheck, .int x_a0_tableCount, .int x_a0_groupCount, .int x_a0_lastCount])), (q_a0_slots, .inl (g_K C 0, 257, .inl j226_0)), (q_a0_last, .inl (g_K C 0, 2250, .inl f_a0_last)), (q_a0_nexts, .inl (g_K C 0, 2250, .inl j226_1)), (q_a0_check, .inr (5, [.ref q_a0_check_leaves, .int j226_2])), (q_a0_reader, .inr (1, [.ref r_a0_reader_row, .int x_a0_reader_end, .int x_a0_reader_at, .int x_a0_reader_taken, .int j226_3, .int j226_4])), (q_a0_row, .inr (4, [.ref y226_a0_row_bytes, .int j226_7])), (y226_a0_row_bytes, .inl (g_K C 0, j226_5, .inl j226_6)), (q_a0_check_leaves, .inl (g_K C 0, 256, .inl f_a0_check_leaves))] [] 226 [] := by
    intro j226_0 j226_1 j226_2 j226_3 j226_4 j226_5 j226_6 j226_7 y226_a0_row_bytes hle hf
    have hfi : j226_5 ≤ out.2.2.2.2.2.2.1 := by
      exact Unpacker_unrotate_J226_mo hf
    unfold Unpacker_unrotate_J226 at hf
    refine g_iconst 226 hC (1 : Int32) (by decide) d_Unpacker_unrotate_226 ?_
    refine g_goto 227 hC 231 (by decide) d_Unpacker_unrotate_227 ?_
    exact J231 (1 : Int32) j226_0 j226_1 j226_2 j226_3 j226_4 j226_5 j226_6 j226_7 y226_a0_row_bytes hle hf
  refine g_aload_n 0 hC (j := 0) (hj := rfl) (hd := d_Unpacker_unrotate_0) ?_
  refine g_get 1 hC i_Unpacker rfl 0 rfl 7 (by decide) k366 rfl d_Unpacker_unrotate_1 ?_
  refine g_aload_n 4 hC (j := 0) (hj := rfl) (hd := d_Unpacker_unrotate_4) ?_
  refine g_get 5 hC i_Unpacker rfl 0 rfl 18 (by decide) k377 rfl d_Unpacker_unrotate_5 ?_
  refine g_aload_n 8 hC (j := 0) (hj := rfl) (hd := d_Unpacker_unrotate_8) ?_
  refine g_get 9 hC i_Unpacker rfl 0 rfl 8 (by decide) k367 rfl d_Unpacker_unrotate_9 ?_
  refine g_aload_n 12 hC (j := 0) (hj := rfl) (hd := d_Unpacker_unrotate_12) ?_
  refine g_get 13 hC i_Unpacker rfl 0 rfl 9 (by decide) k368 rfl d_Unpacker_unrotate_13 ?_
  obtain ⟨u2, hu2, hf⟩ := bd_some hf
  refine g_callSv 16 hC (c_Rotations_sortByByte (g_l C) (g_D C) (g_K C) q_a0_slots 257 f_a0_slots q_a0_last 2250 f_a0_last q_a0_nexts 2250 f_a0_nexts x_a0_lastCount u2 hu2) k674 k9 k1172 k673 4 rfl (by decide +kernel) ⟨Nat.le_of_ble_eq_true rfl, Nat.le_of_ble_eq_true rfl⟩ [1, 2, 3] [0, 4, 5, 6, 7, 8] [(q_a0, .inr (11, [.ref q_a0_row, .ref q_a0_reader, .ref q_a0_check, .ref r_a0_list, .ref r_a0_tableList, .ref r_a0_tables, .ref r_a0_groupTables, .ref q_a0_last, .ref q_a0_nexts, .ref q_a0_slots, .int x_a0_limit, .int x_a0_most, .int x_a0_blockAt, .int x_a0_originAt, .int x_a0_origin, .int x_a0_blockCheck, .int x_a0_tableCount, .int x_a0_groupCount, .int x_a0_lastCount])), (q_a0_check, .inr (5, [.ref q_a0_check_leaves, .int x_a0_check_bits])), (q_a0_reader, .inr (1, [.ref r_a0_reader_row, .int x_a0_reader_end, .int x_a0_reader_at, .int x_a0_reader_taken, .int x_a0_reader_fault, .int x_a0_reader_faultAt])), (q_a0_row, .inr (4, [.ref q_a0_row_bytes, .int x_a0_row_count])), (q_a0_row_bytes, .inl (g_K C 0, n_a0_row_bytes, .inl f_a0_row_bytes)), (q_a0_check_leaves, .inl (g_K C 0, 256, .inl f_a0_check_leaves))] rfl rfl rfl rfl rfl rfl (Nat.le_of_ble_eq_true rfl) ⟨show (n_a0_row_bytes - n_a0_row_bytes) + 0 ≤ out.2.2.2.2.2.2.1 - n_a0_row_bytes by omega, show (2 * (n_a0_row_bytes - n_a0_row_bytes)) + 0 ≤ 2 * (out.2.2.2.2.2.2.1 - n_a0_row_bytes) by omega⟩ (fun (_ : Unit) => [(q_a0, .inr (11, [.ref q_a0_row, .ref q_a0_reader, .ref q_a0_check, .ref r_a0_list, .ref r_a0_tableList, .ref r_a0_tables, .ref r_a0_groupTables, .ref q_a0_last, .ref q_a0_nexts, .ref q_a0_slots, .int x_a0_limit, .int x_a0_most, .int x_a0_blockAt, .int x_a0_originAt, .int x_a0_origin, .int x_a0_blockCheck, .int x_a0_tableCount, .int x_a0_groupCount, .int x_a0_lastCount])), (q_a0_check, .inr (5, [.ref q_a0_check_leaves, .int x_a0_check_bits])), (q_a0_reader, .inr (1, [.ref r_a0_reader_row, .int x_a0_reader_end, .int x_a0_reader_at, .int x_a0_reader_taken, .int x_a0_reader_fault, .int x_a0_reader_faultAt])), (q_a0_row, .inr (4, [.ref q_a0_row_bytes, .int x_a0_row_count])), (q_a0_row_bytes, .inl (g_K C 0, n_a0_row_bytes, .inl f_a0_row_bytes)), (q_a0_check_leaves, .inl (g_K C 0, 256, .inl f_a0_check_leaves)), (q_a0_slots, .inl (g_K C 0, 257, .inl u2.1)), (q_a0_last, .inl (g_K C 0, 2250, .inl f_a0_last)), (q_a0_nexts, .inl (g_K C 0, 2250, .inl u2.2))]) (fun _ => rfl) d_Unpacker_unrotate_16 (n_a0_row_bytes - n_a0_row_bytes) (2 * (n_a0_row_bytes - n_a0_row_bytes)) rfl rfl (fun _ => ?_)
  refine g_aload_n 19 hC (j := 0) (hj := rfl) (hd := d_Unpacker_unrotate_19) ?_
  refine g_get 20 hC i_Unpacker rfl 0 rfl 2 (by decide) k361 rfl d_Unpacker_unrotate_20 ?_
  obtain ⟨u3, hu3, hf⟩ := bd_some hf
  refine g_callVv 23 hC (c_Check_begin (g_l C) (g_D C) (g_K C) q_a0_check q_a0_check_leaves x_a0_check_bits u3 hu3) k648 k8 k1173 k646 k647 0 rfl (by decide +kernel) ⟨Nat.le_of_ble_eq_true rfl, Nat.le_of_ble_eq_true rfl⟩ [1] [0, 2, 3, 4, 5, 6, 7, 8] [(q_a0, .inr (11, [.ref q_a0_row, .ref q_a0_reader, .ref q_a0_check, .ref r_a0_list, .ref r_a0_tableList, .ref r_a0_tables, .ref r_a0_groupTables, .ref q_a0_last, .ref q_a0_nexts, .ref q_a0_slots, .int x_a0_limit, .int x_a0_most, .int x_a0_blockAt, .int x_a0_originAt, .int x_a0_origin, .int x_a0_blockCheck, .int x_a0_tableCount, .int x_a0_groupCount, .int x_a0_lastCount])), (q_a0_reader, .inr (1, [.ref r_a0_reader_row, .int x_a0_reader_end, .int x_a0_reader_at, .int x_a0_reader_taken, .int x_a0_reader_fault, .int x_a0_reader_faultAt])), (q_a0_row, .inr (4, [.ref q_a0_row_bytes, .int x_a0_row_count])), (q_a0_row_bytes, .inl (g_K C 0, n_a0_row_bytes, .inl f_a0_row_bytes)), (q_a0_check_leaves, .inl (g_K C 0, 256, .inl f_a0_check_leaves)), (q_a0_slots, .inl (g_K C 0, 257, .inl u2.1)), (q_a0_last, .inl (g_K C 0, 2250, .inl f_a0_last)), (q_a0_nexts, .inl (g_K C 0, 2250, .inl u2.2))] rfl rfl rfl rfl rfl 0 5 rfl rfl rfl rfl (Nat.le_of_ble_eq_true rfl) ⟨show (n_a0_row_bytes - n_a0_row_bytes) + 0 ≤ out.2.2.2.2.2.2.1 - n_a0_row_bytes by omega, show (2 * (n_a0_row_bytes - n_a0_row_bytes)) + 0 ≤ 2 * (out.2.2.2.2.2.2.1 - n_a0_row_bytes) by omega⟩ (fun (_ : Unit) => [(q_a0, .inr (11, [.ref q_a0_row, .ref q_a0_reader, .ref q_a0_check, .ref r_a0_list, .ref r_a0_tableList, .ref r_a0_tables, .ref r_a0_groupTables, .ref q_a0_last, .ref q_a0_nexts, .ref q_a0_slots, .int x_a0_limit, .int x_a0_most, .int x_a0_blockAt, .int x_a0_originAt, .int x_a0_origin, .int x_a0_blockCheck, .int x_a0_tableCount, .int x_a0_groupCount, .int x_a0_lastCount])), (q_a0_reader, .inr (1, [.ref r_a0_reader_row, .int x_a0_reader_end, .int x_a0_reader_at, .int x_a0_reader_taken, .int x_a0_reader_fault, .int x_a0_reader_faultAt])), (q_a0_row, .inr (4, [.ref q_a0_row_bytes, .int x_a0_row_count])), (q_a0_row_bytes, .inl (g_K C 0, n_a0_row_bytes, .inl f_a0_row_bytes)), (q_a0_check_leaves, .inl (g_K C 0, 256, .inl f_a0_check_leaves)), (q_a0_slots, .inl (g_K C 0, 257, .inl u2.1)), (q_a0_last, .inl (g_K C 0, 2250, .inl f_a0_last)), (q_a0_nexts, .inl (g_K C 0, 2250, .inl u2.2)), (q_a0_check, .inr (5, [.ref q_a0_check_leaves, .int u3]))]) (fun _ => rfl) d_Unpacker_unrotate_23 (n_a0_row_bytes - n_a0_row_bytes) (2 * (n_a0_row_bytes - n_a0_row_bytes)) rfl rfl (fun _ => ?_)
  refine g_iconst 26 hC (0 : Int32) (by decide) d_Unpacker_unrotate_26 ?_
  refine g_istore_n 27 hC (lv2 := [(1, .int (0 : Int32)), (0, .ref q_a0)]) (hn := (by decide)) (hl2 := rfl) (hd := d_Unpacker_unrotate_27) ?_
  refine g_iconst 28 hC (-1 : Int32) (by decide) d_Unpacker_unrotate_28 ?_
  refine g_istore_n 29 hC (lv2 := [(2, .int (-1 : Int32)), (1, .int (0 : Int32)), (0, .ref q_a0)]) (hn := (by decide)) (hl2 := rfl) (hd := d_Unpacker_unrotate_29) ?_
  refine g_aload_n 30 hC (j := 2) (hj := rfl) (hd := d_Unpacker_unrotate_30) ?_
  refine g_get 31 hC i_Unpacker rfl 0 rfl 14 (by decide) k373 rfl d_Unpacker_unrotate_31 ?_
  refine g_istore_n 34 hC (lv2 := [(3, .int x_a0_origin), (2, .int (-1 : Int32)), (1, .int (0 : Int32)), (0, .ref q_a0)]) (hn := (by decide)) (hl2 := rfl) (hd := d_Unpacker_unrotate_34) ?_
  refine g_iconst 35 hC (0 : Int32) (by decide) d_Unpacker_unrotate_35 ?_
  refine g_istore 36 hC (lv2 := [(4, .int (0 : Int32)), (3, .int x_a0_origin), (2, .int (-1 : Int32)), (1, .int (0 : Int32)), (0, .ref q_a0)]) (hn := (by decide)) (hl2 := rfl) (hd := d_Unpacker_unrotate_36) ?_
  obtain ⟨u5, hu5, hf⟩ := bd_some hf
  have hB : (Sum.elim (fun (w : (Int32 × Nat × (Nat → Int32) × Int32)) => w.2.1) (Sum.elim (fun (w : (Int32 × Nat × (Nat → Int32) × Int32)) => w.2.1) (fun (w : (Int32 × Int32 × Nat × (Nat → Int32) × Int32)) => w.2.2.1))) u5 ≤ out.2.2.2.2.2.2.1 := by
    have h := hf
    rcases u5 with v6 | w0u5
    · have h := el_l h
      show v6.2.1 ≤ _
      obtain ⟨u7, hu7, h⟩ := bd_some h
      obtain ⟨_, h⟩ := gd_some h
      exact mo_leaf (L := (fun (o : (Int32 × (Nat → Int32) × (Nat → Int32) × Int32 × Int32 × Int32 × Nat × (Nat → Int32) × Int32)) => o.2.2.2.2.2.2.1)) h (show v6.2.1 ≤ v6.2.1 by omega)
    · have h := el_r h
      rcases w0u5 with v9 | v12
      · have h := el_l h
        show v9.2.1 ≤ _
        obtain ⟨u10, hu10, h⟩ := bd_some h
        obtain ⟨_, h⟩ := gd_some h
        exact mo_leaf (L := (fun (o : (Int32 × (Nat → Int32) × (Nat → Int32) × Int32 × Int32 × Int32 × Nat × (Nat → Int32) × Int32)) => o.2.2.2.2.2.2.1)) h (show v9.2.1 ≤ v9.2.1 by omega)
      · have h := el_r h
        show v12.2.2.1 ≤ _
        by_cases c13 : v12.1 = (4 : Int32)
        · have h := it_t c13 h
          obtain ⟨u18, hu18, h⟩ := bd_some h
          obtain ⟨_, h⟩ := gd_some h
          exact mo_leaf (L := (fun (o : (Int32 × (Nat → Int32) × (Nat → Int32) × Int32 × Int32 × Int32 × Nat × (Nat → Int32) × Int32)) => o.2.2.2.2.2.2.1)) h (show v12.2.2.1 ≤ v12.2.2.1 by omega)
        · have h := it_f c13 h
          obtain ⟨u14, hu14, h⟩ := bd_some h
          by_cases c15 : u14 = x_a0_blockCheck
          · have h := it_t c15 h
            exact Nat.le_trans (show v12.2.2.1 ≤ v12.2.2.1 by omega) (Unpacker_unrotate_J226_mo h)
          · have h := it_f c15 h
            obtain ⟨u16, hu16, h⟩ := bd_some h
            by_cases c17 : u16.1 = 0
            · have h := it_t c17 h
              exact Nat.le_trans (show v12.2.2.1 ≤ v12.2.2.1 by omega) (Unpacker_unrotate_J231_mo h)
            · have h := it_f c17 h
              exact Nat.le_trans (show v12.2.2.1 ≤ v12.2.2.1 by omega) (Unpacker_unrotate_J226_mo h)
  have Xu5_0 : ∀ (v6 : (Int32 × Nat × (Nat → Int32) × Int32)), Sum.inl v6 = u5 → ∀ (y38_a0_row_bytes : Nat), n_a0_row_bytes ≤ v6.2.1 → gAt C (v6.2.1 - n_a0_row_bytes) (2 * (v6.2.1 - n_a0_row_bytes)) [(q_a0, .inr (11, [.ref q_a0_row, .ref q_a0_reader, .ref q_a0_check, .ref r_a0_list, .ref r_a0_tableList, .ref r_a0_tables, .ref r_a0_groupTables, .ref q_a0_last, .ref q_a0_nexts, .ref q_a0_slots, .int x_a0_limit, .int x_a0_most, .int x_a0_blockAt, .int x_a0_originAt, .int x_a0_origin, .int x_a0_blockCheck, .int x_a0_tableCount, .int x_a0_groupCount, .int x_a0_lastCount])), (q_a0_slots, .inl (g_K C 0, 257, .inl u2.1)), (q_a0_last, .inl (g_K C 0, 2250, .inl f_a0_last)), (q_a0_nexts, .inl (g_K C 0, 2250, .inl u2.2)), (q_a0_check, .inr (5, [.ref q_a0_check_leaves, .int v6.1])), (q_a0_reader, .inr (1, [.ref r_a0_reader_row, .int x_a0_reader_end, .int x_a0_reader_at, .int x_a0_reader_taken, .int x_a0_reader_fault, .int x_a0_reader_faultAt])), (q_a0_row, .inr (4, [.ref y38_a0_row_bytes, .int v6.2.2.2])), (y38_a0_row_bytes, .inl (g_K C 0, v6.2.1, .inl v6.2.2.1)), (q_a0_check_leaves, .inl (g_K C 0, 256, .inl f_a0_check_leaves))] [(0, .ref q_a0)] 87 [] := by
    intro v6 hv y38_a0_row_bytes hle
    rw [← hv] at hf
    have hf := el_l hf
    have hfi : v6.2.1 ≤ out.2.2.2.2.2.2.1 := by
      have h := hf
      obtain ⟨u7, hu7, h⟩ := bd_some h
      obtain ⟨_, h⟩ := gd_some h
      exact mo_leaf (L := (fun (o : (Int32 × (Nat → Int32) × (Nat → Int32) × Int32 × Int32 × Int32 × Nat × (Nat → Int32) × Int32)) => o.2.2.2.2.2.2.1)) h (show v6.2.1 ≤ v6.2.1 by omega)
    refine g_aload_n 87 hC (j := 0) (hj := rfl) (hd := d_Unpacker_unrotate_87) ?_
    refine g_get 88 hC i_Unpacker rfl 0 rfl 1 (by decide) k359 rfl d_Unpacker_unrotate_88 ?_
    refine g_bipush 91 hC (11 : Int32) (by decide) d_Unpacker_unrotate_91 ?_
    refine g_aload_n 93 hC (j := 0) (hj := rfl) (hd := d_Unpacker_unrotate_93) ?_
    refine g_get 94 hC i_Unpacker rfl 0 rfl 12 (by decide) k371 rfl d_Unpacker_unrotate_94 ?_
    obtain ⟨u7, hu7, hf⟩ := bd_some hf
    refine g_callVi 97 hC (c_BitReader_fail (g_l C) (g_D C) (g_K C) q_a0_reader r_a0_reader_row x_a0_reader_end x_a0_reader_at x_a0_reader_taken x_a0_reader_fault x_a0_reader_faultAt (11 : Int32) x_a0_blockAt u7 hu7) k1102 k13 k1104 k1100 k1101 2 rfl (by decide +kernel) ⟨Nat.le_of_ble_eq_true rfl, Nat.le_of_ble_eq_true rfl⟩ [5] [0, 1, 2, 3, 4, 6, 7, 8] [(q_a0, .inr (11, [.ref q_a0_row, .ref q_a0_reader, .ref q_a0_check, .ref r_a0_list, .ref r_a0_tableList, .ref r_a0_tables, .ref r_a0_groupTables, .ref q_a0_last, .ref q_a0_nexts, .ref q_a0_slots, .int x_a0_limit, .int x_a0_most, .int x_a0_blockAt, .int x_a0_originAt, .int x_a0_origin, .int x_a0_blockCheck, .int x_a0_tableCount, .int x_a0_groupCount, .int x_a0_lastCount])), (q_a0_slots, .inl (g_K C 0, 257, .inl u2.1)), (q_a0_last, .inl (g_K C 0, 2250, .inl f_a0_last)), (q_a0_nexts, .inl (g_K C 0, 2250, .inl u2.2)), (q_a0_check, .inr (5, [.ref q_a0_check_leaves, .int v6.1])), (q_a0_row, .inr (4, [.ref y38_a0_row_bytes, .int v6.2.2.2])), (y38_a0_row_bytes, .inl (g_K C 0, v6.2.1, .inl v6.2.2.1)), (q_a0_check_leaves, .inl (g_K C 0, 256, .inl f_a0_check_leaves))] rfl rfl rfl rfl rfl 0 1 rfl rfl rfl rfl (Nat.le_of_ble_eq_true rfl) ⟨show (v6.2.1 - n_a0_row_bytes) + 0 ≤ out.2.2.2.2.2.2.1 - n_a0_row_bytes by omega, show (2 * (v6.2.1 - n_a0_row_bytes)) + 0 ≤ 2 * (out.2.2.2.2.2.2.1 - n_a0_row_bytes) by omega⟩ (fun (_ : Unit) => [(q_a0, .inr (11, [.ref q_a0_row, .ref q_a0_reader, .ref q_a0_check, .ref r_a0_list, .ref r_a0_tableList, .ref r_a0_tables, .ref r_a0_groupTables, .ref q_a0_last, .ref q_a0_nexts, .ref q_a0_slots, .int x_a0_limit, .int x_a0_most, .int x_a0_blockAt, .int x_a0_originAt, .int x_a0_origin, .int x_a0_blockCheck, .int x_a0_tableCount, .int x_a0_groupCount, .int x_a0_lastCount])), (q_a0_slots, .inl (g_K C 0, 257, .inl u2.1)), (q_a0_last, .inl (g_K C 0, 2250, .inl f_a0_last)), (q_a0_nexts, .inl (g_K C 0, 2250, .inl u2.2)), (q_a0_check, .inr (5, [.ref q_a0_check_leaves, .int v6.1])), (q_a0_row, .inr (4, [.ref y38_a0_row_bytes, .int v6.2.2.2])), (y38_a0_row_bytes, .inl (g_K C 0, v6.2.1, .inl v6.2.2.1)), (q_a0_check_leaves, .inl (g_K C 0, 256, .inl f_a0_check_leaves)), (q_a0_reader, .inr (1, [.ref r_a0_reader_row, .int x_a0_reader_end, .int x_a0_reader_at, .int x_a0_reader_taken, .int u7.2.1, .int u7.2.2]))]) (fun _ => rfl) d_Unpacker_unrotate_97 (v6.2.1 - n_a0_row_bytes) (2 * (v6.2.1 - n_a0_row_bytes)) rfl rfl (fun _ => ?_)
    obtain ⟨e8, hf⟩ := gd_some hf
    exact g_re [0, 1, 2, 3, 4, 8, 5, 6, 7] [] rfl rfl rfl (kr y38_a0_row_bytes (u7.1, u2.1, u2.2, v6.1, u7.2.1, u7.2.2, v6.2.1, v6.2.2.1, v6.2.2.2) 100 [] (Option.some.inj hf) d_Unpacker_unrotate_100 (bl_nar e8))
  have Xu5_1 : ∀ (v9 : (Int32 × Nat × (Nat → Int32) × Int32)), Sum.inr (Sum.inl v9) = u5 → ∀ (y38_a0_row_bytes : Nat), n_a0_row_bytes ≤ v9.2.1 → gAt C (v9.2.1 - n_a0_row_bytes) (2 * (v9.2.1 - n_a0_row_bytes)) [(q_a0, .inr (11, [.ref q_a0_row, .ref q_a0_reader, .ref q_a0_check, .ref r_a0_list, .ref r_a0_tableList, .ref r_a0_tables, .ref r_a0_groupTables, .ref q_a0_last, .ref q_a0_nexts, .ref q_a0_slots, .int x_a0_limit, .int x_a0_most, .int x_a0_blockAt, .int x_a0_originAt, .int x_a0_origin, .int x_a0_blockCheck, .int x_a0_tableCount, .int x_a0_groupCount, .int x_a0_lastCount])), (q_a0_slots, .inl (g_K C 0, 257, .inl u2.1)), (q_a0_last, .inl (g_K C 0, 2250, .inl f_a0_last)), (q_a0_nexts, .inl (g_K C 0, 2250, .inl u2.2)), (q_a0_check, .inr (5, [.ref q_a0_check_leaves, .int v9.1])), (q_a0_reader, .inr (1, [.ref r_a0_reader_row, .int x_a0_reader_end, .int x_a0_reader_at, .int x_a0_reader_taken, .int x_a0_reader_fault, .int x_a0_reader_faultAt])), (q_a0_row, .inr (4, [.ref y38_a0_row_bytes, .int v9.2.2.2])), (y38_a0_row_bytes, .inl (g_K C 0, v9.2.1, .inl v9.2.2.1)), (q_a0_check_leaves, .inl (g_K C 0, 256, .inl f_a0_check_leaves))] [(0, .ref q_a0)] 130 [] := by
    intro v9 hv y38_a0_row_bytes hle
    rw [← hv] at hf
    have hf := el_r hf
    have hf := el_l hf
    have hfi : v9.2.1 ≤ out.2.2.2.2.2.2.1 := by
      have h := hf
      obtain ⟨u10, hu10, h⟩ := bd_some h
      obtain ⟨_, h⟩ := gd_some h
      exact mo_leaf (L := (fun (o : (Int32 × (Nat → Int32) × (Nat → Int32) × Int32 × Int32 × Int32 × Nat × (Nat → Int32) × Int32)) => o.2.2.2.2.2.2.1)) h (show v9.2.1 ≤ v9.2.1 by omega)
    refine g_aload_n 130 hC (j := 0) (hj := rfl) (hd := d_Unpacker_unrotate_130) ?_
    refine g_get 131 hC i_Unpacker rfl 0 rfl 1 (by decide) k359 rfl d_Unpacker_unrotate_131 ?_
    refine g_bipush 134 hC (12 : Int32) (by decide) d_Unpacker_unrotate_134 ?_
    refine g_aload_n 136 hC (j := 0) (hj := rfl) (hd := d_Unpacker_unrotate_136) ?_
    refine g_get 137 hC i_Unpacker rfl 0 rfl 12 (by decide) k371 rfl d_Unpacker_unrotate_137 ?_
    obtain ⟨u10, hu10, hf⟩ := bd_some hf
    refine g_callVi 140 hC (c_BitReader_fail (g_l C) (g_D C) (g_K C) q_a0_reader r_a0_reader_row x_a0_reader_end x_a0_reader_at x_a0_reader_taken x_a0_reader_fault x_a0_reader_faultAt (12 : Int32) x_a0_blockAt u10 hu10) k1102 k13 k1104 k1100 k1101 2 rfl (by decide +kernel) ⟨Nat.le_of_ble_eq_true rfl, Nat.le_of_ble_eq_true rfl⟩ [5] [0, 1, 2, 3, 4, 6, 7, 8] [(q_a0, .inr (11, [.ref q_a0_row, .ref q_a0_reader, .ref q_a0_check, .ref r_a0_list, .ref r_a0_tableList, .ref r_a0_tables, .ref r_a0_groupTables, .ref q_a0_last, .ref q_a0_nexts, .ref q_a0_slots, .int x_a0_limit, .int x_a0_most, .int x_a0_blockAt, .int x_a0_originAt, .int x_a0_origin, .int x_a0_blockCheck, .int x_a0_tableCount, .int x_a0_groupCount, .int x_a0_lastCount])), (q_a0_slots, .inl (g_K C 0, 257, .inl u2.1)), (q_a0_last, .inl (g_K C 0, 2250, .inl f_a0_last)), (q_a0_nexts, .inl (g_K C 0, 2250, .inl u2.2)), (q_a0_check, .inr (5, [.ref q_a0_check_leaves, .int v9.1])), (q_a0_row, .inr (4, [.ref y38_a0_row_bytes, .int v9.2.2.2])), (y38_a0_row_bytes, .inl (g_K C 0, v9.2.1, .inl v9.2.2.1)), (q_a0_check_leaves, .inl (g_K C 0, 256, .inl f_a0_check_leaves))] rfl rfl rfl rfl rfl 0 1 rfl rfl rfl rfl (Nat.le_of_ble_eq_true rfl) ⟨show (v9.2.1 - n_a0_row_bytes) + 0 ≤ out.2.2.2.2.2.2.1 - n_a0_row_bytes by omega, show (2 * (v9.2.1 - n_a0_row_bytes)) + 0 ≤ 2 * (out.2.2.2.2.2.2.1 - n_a0_row_bytes) by omega⟩ (fun (_ : Unit) => [(q_a0, .inr (11, [.ref q_a0_row, .ref q_a0_reader, .ref q_a0_check, .ref r_a0_list, .ref r_a0_tableList, .ref r_a0_tables, .ref r_a0_groupTables, .ref q_a0_last, .ref q_a0_nexts, .ref q_a0_slots, .int x_a0_limit, .int x_a0_most, .int x_a0_blockAt, .int x_a0_originAt, .int x_a0_origin, .int x_a0_blockCheck, .int x_a0_tableCount, .int x_a0_groupCount, .int x_a0_lastCount])), (q_a0_slots, .inl (g_K C 0, 257, .inl u2.1)), (q_a0_last, .inl (g_K C 0, 2250, .inl f_a0_last)), (q_a0_nexts, .inl (g_K C 0, 2250, .inl u2.2)), (q_a0_check, .inr (5, [.ref q_a0_check_leaves, .int v9.1])), (q_a0_row, .inr (4, [.ref y38_a0_row_bytes, .int v9.2.2.2])), (y38_a0_row_bytes, .inl (g_K C 0, v9.2.1, .inl v9.2.2.1)), (q_a0_check_leaves, .inl (g_K C 0, 256, .inl f_a0_check_leaves)), (q_a0_reader, .inr (1, [.ref r_a0_reader_row, .int x_a0_reader_end, .int x_a0_reader_at, .int x_a0_reader_taken, .int u10.2.1, .int u10.2.2]))]) (fun _ => rfl) d_Unpacker_unrotate_140 (v9.2.1 - n_a0_row_bytes) (2 * (v9.2.1 - n_a0_row_bytes)) rfl rfl (fun _ => ?_)
    obtain ⟨e11, hf⟩ := gd_some hf
    exact g_re [0, 1, 2, 3, 4, 8, 5, 6, 7] [] rfl rfl rfl (kr y38_a0_row_bytes (u10.1, u2.1, u2.2, v9.1, u10.2.1, u10.2.2, v9.2.1, v9.2.2.1, v9.2.2.2) 143 [] (Option.some.inj hf) d_Unpacker_unrotate_143 (bl_nar e11))
  have Xu5_2 : ∀ (v12 : (Int32 × Int32 × Nat × (Nat → Int32) × Int32)), Sum.inr (Sum.inr v12) = u5 → ∀ (y38_a0_row_bytes : Nat), n_a0_row_bytes ≤ v12.2.2.1 → gAt C (v12.2.2.1 - n_a0_row_bytes) (2 * (v12.2.2.1 - n_a0_row_bytes)) [(q_a0, .inr (11, [.ref q_a0_row, .ref q_a0_reader, .ref q_a0_check, .ref r_a0_list, .ref r_a0_tableList, .ref r_a0_tables, .ref r_a0_groupTables, .ref q_a0_last, .ref q_a0_nexts, .ref q_a0_slots, .int x_a0_limit, .int x_a0_most, .int x_a0_blockAt, .int x_a0_originAt, .int x_a0_origin, .int x_a0_blockCheck, .int x_a0_tableCount, .int x_a0_groupCount, .int x_a0_lastCount])), (q_a0_slots, .inl (g_K C 0, 257, .inl u2.1)), (q_a0_last, .inl (g_K C 0, 2250, .inl f_a0_last)), (q_a0_nexts, .inl (g_K C 0, 2250, .inl u2.2)), (q_a0_check, .inr (5, [.ref q_a0_check_leaves, .int v12.2.1])), (q_a0_reader, .inr (1, [.ref r_a0_reader_row, .int x_a0_reader_end, .int x_a0_reader_at, .int x_a0_reader_taken, .int x_a0_reader_fault, .int x_a0_reader_faultAt])), (q_a0_row, .inr (4, [.ref y38_a0_row_bytes, .int v12.2.2.2.2])), (y38_a0_row_bytes, .inl (g_K C 0, v12.2.2.1, .inl v12.2.2.2.1)), (q_a0_check_leaves, .inl (g_K C 0, 256, .inl f_a0_check_leaves))] [(0, .ref q_a0), (1, .int v12.1)] 177 [] := by
    intro v12 hv y38_a0_row_bytes hle
    rw [← hv] at hf
    have hf := el_r hf
    have hf := el_r hf
    have hfi : v12.2.2.1 ≤ out.2.2.2.2.2.2.1 := by
      have h := hf
      by_cases c13 : v12.1 = (4 : Int32)
      · have h := it_t c13 h
        obtain ⟨u18, hu18, h⟩ := bd_some h
        obtain ⟨_, h⟩ := gd_some h
        exact mo_leaf (L := (fun (o : (Int32 × (Nat → Int32) × (Nat → Int32) × Int32 × Int32 × Int32 × Nat × (Nat → Int32) × Int32)) => o.2.2.2.2.2.2.1)) h (show v12.2.2.1 ≤ v12.2.2.1 by omega)
      · have h := it_f c13 h
        obtain ⟨u14, hu14, h⟩ := bd_some h
        by_cases c15 : u14 = x_a0_blockCheck
        · have h := it_t c15 h
          exact Nat.le_trans (show v12.2.2.1 ≤ v12.2.2.1 by omega) (Unpacker_unrotate_J226_mo h)
        · have h := it_f c15 h
          obtain ⟨u16, hu16, h⟩ := bd_some h
          by_cases c17 : u16.1 = 0
          · have h := it_t c17 h
            exact Nat.le_trans (show v12.2.2.1 ≤ v12.2.2.1 by omega) (Unpacker_unrotate_J231_mo h)
          · have h := it_f c17 h
            exact Nat.le_trans (show v12.2.2.1 ≤ v12.2.2.1 by omega) (Unpacker_unrotate_J226_mo h)
    refine g_iload_n 177 hC (j := 1) (hj := rfl) (hd := d_Unpacker_unrotate_177) ?_
    refine g_iconst 178 hC (4 : Int32) (by decide) d_Unpacker_unrotate_178 ?_
    refine g_icmp_ne 179 hC 196 (by decide) d_Unpacker_unrotate_179 (fun c13 => ?_) (fun c13 => ?_)
    · have hf := it_f c13 hf
      refine g_aload_n 196 hC (j := 0) (hj := rfl) (hd := d_Unpacker_unrotate_196) ?_
      refine g_get 197 hC i_Unpacker rfl 0 rfl 2 (by decide) k361 rfl d_Unpacker_unrotate_197 ?_
      obtain ⟨u14, hu14, hf⟩ := bd_some hf
      refine g_callVi 200 hC (c_Check_ofBlock (g_l C) (g_D C) (g_K C) q_a0_check q_a0_check_leaves v12.2.1 u14 hu14) k667 k8 k1180 k665 k666 0 rfl (by decide +kernel) ⟨Nat.le_of_ble_eq_true rfl, Nat.le_of_ble_eq_true rfl⟩ [4] [0, 1, 2, 3, 5, 6, 7, 8] [(q_a0, .inr (11, [.ref q_a0_row, .ref q_a0_reader, .ref q_a0_check, .ref r_a0_list, .ref r_a0_tableList, .ref r_a0_tables, .ref r_a0_groupTables, .ref q_a0_last, .ref q_a0_nexts, .ref q_a0_slots, .int x_a0_limit, .int x_a0_most, .int x_a0_blockAt, .int x_a0_originAt, .int x_a0_origin, .int x_a0_blockCheck, .int x_a0_tableCount, .int x_a0_groupCount, .int x_a0_lastCount])), (q_a0_slots, .inl (g_K C 0, 257, .inl u2.1)), (q_a0_last, .inl (g_K C 0, 2250, .inl f_a0_last)), (q_a0_nexts, .inl (g_K C 0, 2250, .inl u2.2)), (q_a0_reader, .inr (1, [.ref r_a0_reader_row, .int x_a0_reader_end, .int x_a0_reader_at, .int x_a0_reader_taken, .int x_a0_reader_fault, .int x_a0_reader_faultAt])), (q_a0_row, .inr (4, [.ref y38_a0_row_bytes, .int v12.2.2.2.2])), (y38_a0_row_bytes, .inl (g_K C 0, v12.2.2.1, .inl v12.2.2.2.1)), (q_a0_check_leaves, .inl (g_K C 0, 256, .inl f_a0_check_leaves))] rfl rfl rfl rfl rfl 0 5 rfl rfl rfl rfl (Nat.le_of_ble_eq_true rfl) ⟨show (v12.2.2.1 - n_a0_row_bytes) + 0 ≤ out.2.2.2.2.2.2.1 - n_a0_row_bytes by omega, show (2 * (v12.2.2.1 - n_a0_row_bytes)) + 0 ≤ 2 * (out.2.2.2.2.2.2.1 - n_a0_row_bytes) by omega⟩ (fun (_ : Unit) => [(q_a0, .inr (11, [.ref q_a0_row, .ref q_a0_reader, .ref q_a0_check, .ref r_a0_list, .ref r_a0_tableList, .ref r_a0_tables, .ref r_a0_groupTables, .ref q_a0_last, .ref q_a0_nexts, .ref q_a0_slots, .int x_a0_limit, .int x_a0_most, .int x_a0_blockAt, .int x_a0_originAt, .int x_a0_origin, .int x_a0_blockCheck, .int x_a0_tableCount, .int x_a0_groupCount, .int x_a0_lastCount])), (q_a0_slots, .inl (g_K C 0, 257, .inl u2.1)), (q_a0_last, .inl (g_K C 0, 2250, .inl f_a0_last)), (q_a0_nexts, .inl (g_K C 0, 2250, .inl u2.2)), (q_a0_reader, .inr (1, [.ref r_a0_reader_row, .int x_a0_reader_end, .int x_a0_reader_at, .int x_a0_reader_taken, .int x_a0_reader_fault, .int x_a0_reader_faultAt])), (q_a0_row, .inr (4, [.ref y38_a0_row_bytes, .int v12.2.2.2.2])), (y38_a0_row_bytes, .inl (g_K C 0, v12.2.2.1, .inl v12.2.2.2.1)), (q_a0_check_leaves, .inl (g_K C 0, 256, .inl f_a0_check_leaves)), (q_a0_check, .inr (5, [.ref q_a0_check_leaves, .int v12.2.1]))]) (fun _ => rfl) d_Unpacker_unrotate_200 (v12.2.2.1 - n_a0_row_bytes) (2 * (v12.2.2.1 - n_a0_row_bytes)) rfl rfl (fun _ => ?_)
      refine g_aload_n 203 hC (j := 0) (hj := rfl) (hd := d_Unpacker_unrotate_203) ?_
      refine g_get 204 hC i_Unpacker rfl 0 rfl 15 (by decide) k374 rfl d_Unpacker_unrotate_204 ?_
      refine g_icmp_eq 207 hC 226 (by decide) d_Unpacker_unrotate_207 (fun c15 => ?_) (fun c15 => ?_)
      · have hf := it_t c15 hf
        exact g_re [0, 1, 2, 3, 8, 4, 5, 6, 7] [] rfl rfl rfl (J226 u2.1 u2.2 v12.2.1 x_a0_reader_fault x_a0_reader_faultAt v12.2.2.1 v12.2.2.2.1 v12.2.2.2.2 y38_a0_row_bytes hle hf)
      · have hf := it_f c15 hf
        refine g_aload_n 210 hC (j := 0) (hj := rfl) (hd := d_Unpacker_unrotate_210) ?_
        refine g_get 211 hC i_Unpacker rfl 0 rfl 1 (by decide) k359 rfl d_Unpacker_unrotate_211 ?_
        refine g_bipush 214 hC (13 : Int32) (by decide) d_Unpacker_unrotate_214 ?_
        refine g_aload_n 216 hC (j := 0) (hj := rfl) (hd := d_Unpacker_unrotate_216) ?_
        refine g_get 217 hC i_Unpacker rfl 0 rfl 12 (by decide) k371 rfl d_Unpacker_unrotate_217 ?_
        obtain ⟨u16, hu16, hf⟩ := bd_some hf
        refine g_callVi 220 hC (c_BitReader_fail (g_l C) (g_D C) (g_K C) q_a0_reader r_a0_reader_row x_a0_reader_end x_a0_reader_at x_a0_reader_taken x_a0_reader_fault x_a0_reader_faultAt (13 : Int32) x_a0_blockAt u16 hu16) k1102 k13 k1104 k1100 k1101 2 rfl (by decide +kernel) ⟨Nat.le_of_ble_eq_true rfl, Nat.le_of_ble_eq_true rfl⟩ [4] [0, 1, 2, 3, 5, 6, 7, 8] [(q_a0, .inr (11, [.ref q_a0_row, .ref q_a0_reader, .ref q_a0_check, .ref r_a0_list, .ref r_a0_tableList, .ref r_a0_tables, .ref r_a0_groupTables, .ref q_a0_last, .ref q_a0_nexts, .ref q_a0_slots, .int x_a0_limit, .int x_a0_most, .int x_a0_blockAt, .int x_a0_originAt, .int x_a0_origin, .int x_a0_blockCheck, .int x_a0_tableCount, .int x_a0_groupCount, .int x_a0_lastCount])), (q_a0_slots, .inl (g_K C 0, 257, .inl u2.1)), (q_a0_last, .inl (g_K C 0, 2250, .inl f_a0_last)), (q_a0_nexts, .inl (g_K C 0, 2250, .inl u2.2)), (q_a0_row, .inr (4, [.ref y38_a0_row_bytes, .int v12.2.2.2.2])), (y38_a0_row_bytes, .inl (g_K C 0, v12.2.2.1, .inl v12.2.2.2.1)), (q_a0_check_leaves, .inl (g_K C 0, 256, .inl f_a0_check_leaves)), (q_a0_check, .inr (5, [.ref q_a0_check_leaves, .int v12.2.1]))] rfl rfl rfl rfl rfl 0 1 rfl rfl rfl rfl (Nat.le_of_ble_eq_true rfl) ⟨show (v12.2.2.1 - n_a0_row_bytes) + 0 ≤ out.2.2.2.2.2.2.1 - n_a0_row_bytes by omega, show (2 * (v12.2.2.1 - n_a0_row_bytes)) + 0 ≤ 2 * (out.2.2.2.2.2.2.1 - n_a0_row_bytes) by omega⟩ (fun (_ : Unit) => [(q_a0, .inr (11, [.ref q_a0_row, .ref q_a0_reader, .ref q_a0_check, .ref r_a0_list, .ref r_a0_tableList, .ref r_a0_tables, .ref r_a0_groupTables, .ref q_a0_last, .ref q_a0_nexts, .ref q_a0_slots, .int x_a0_limit, .int x_a0_most, .int x_a0_blockAt, .int x_a0_originAt, .int x_a0_origin, .int x_a0_blockCheck, .int x_a0_tableCount, .int x_a0_groupCount, .int x_a0_lastCount])), (q_a0_slots, .inl (g_K C 0, 257, .inl u2.1)), (q_a0_last, .inl (g_K C 0, 2250, .inl f_a0_last)), (q_a0_nexts, .inl (g_K C 0, 2250, .inl u2.2)), (q_a0_row, .inr (4, [.ref y38_a0_row_bytes, .int v12.2.2.2.2])), (y38_a0_row_bytes, .inl (g_K C 0, v12.2.2.1, .inl v12.2.2.2.1)), (q_a0_check_leaves, .inl (g_K C 0, 256, .inl f_a0_check_leaves)), (q_a0_check, .inr (5, [.ref q_a0_check_leaves, .int v12.2.1])), (q_a0_reader, .inr (1, [.ref r_a0_reader_row, .int x_a0_reader_end, .int x_a0_reader_at, .int x_a0_reader_taken, .int u16.2.1, .int u16.2.2]))]) (fun _ => rfl) d_Unpacker_unrotate_220 (v12.2.2.1 - n_a0_row_bytes) (2 * (v12.2.2.1 - n_a0_row_bytes)) rfl rfl (fun _ => ?_)
        refine g_if_eq 223 hC 230 (by decide) d_Unpacker_unrotate_223 (fun c17 => ?_) (fun c17 => ?_)
        · have hf := it_t c17 hf
          refine g_iconst 230 hC (0 : Int32) (by decide) d_Unpacker_unrotate_230 ?_
          exact g_re [0, 1, 2, 3, 7, 8, 4, 5, 6] [] rfl rfl rfl (J231 (0 : Int32) u2.1 u2.2 v12.2.1 u16.2.1 u16.2.2 v12.2.2.1 v12.2.2.2.1 v12.2.2.2.2 y38_a0_row_bytes hle hf)
        · have hf := it_f c17 hf
          exact g_re [0, 1, 2, 3, 7, 8, 4, 5, 6] [] rfl rfl rfl (J226 u2.1 u2.2 v12.2.1 u16.2.1 u16.2.2 v12.2.2.1 v12.2.2.2.1 v12.2.2.2.2 y38_a0_row_bytes hle hf)
    · have hf := it_t c13 hf
      refine g_aload_n 182 hC (j := 0) (hj := rfl) (hd := d_Unpacker_unrotate_182) ?_
      refine g_get 183 hC i_Unpacker rfl 0 rfl 1 (by decide) k359 rfl d_Unpacker_unrotate_183 ?_
      refine g_bipush 186 hC (11 : Int32) (by decide) d_Unpacker_unrotate_186 ?_
      refine g_aload_n 188 hC (j := 0) (hj := rfl) (hd := d_Unpacker_unrotate_188) ?_
      refine g_get 189 hC i_Unpacker rfl 0 rfl 12 (by decide) k371 rfl d_Unpacker_unrotate_189 ?_
      obtain ⟨u18, hu18, hf⟩ := bd_some hf
      refine g_callVi 192 hC (c_BitReader_fail (g_l C) (g_D C) (g_K C) q_a0_reader r_a0_reader_row x_a0_reader_end x_a0_reader_at x_a0_reader_taken x_a0_reader_fault x_a0_reader_faultAt (11 : Int32) x_a0_blockAt u18 hu18) k1102 k13 k1104 k1100 k1101 2 rfl (by decide +kernel) ⟨Nat.le_of_ble_eq_true rfl, Nat.le_of_ble_eq_true rfl⟩ [5] [0, 1, 2, 3, 4, 6, 7, 8] [(q_a0, .inr (11, [.ref q_a0_row, .ref q_a0_reader, .ref q_a0_check, .ref r_a0_list, .ref r_a0_tableList, .ref r_a0_tables, .ref r_a0_groupTables, .ref q_a0_last, .ref q_a0_nexts, .ref q_a0_slots, .int x_a0_limit, .int x_a0_most, .int x_a0_blockAt, .int x_a0_originAt, .int x_a0_origin, .int x_a0_blockCheck, .int x_a0_tableCount, .int x_a0_groupCount, .int x_a0_lastCount])), (q_a0_slots, .inl (g_K C 0, 257, .inl u2.1)), (q_a0_last, .inl (g_K C 0, 2250, .inl f_a0_last)), (q_a0_nexts, .inl (g_K C 0, 2250, .inl u2.2)), (q_a0_check, .inr (5, [.ref q_a0_check_leaves, .int v12.2.1])), (q_a0_row, .inr (4, [.ref y38_a0_row_bytes, .int v12.2.2.2.2])), (y38_a0_row_bytes, .inl (g_K C 0, v12.2.2.1, .inl v12.2.2.2.1)), (q_a0_check_leaves, .inl (g_K C 0, 256, .inl f_a0_check_leaves))] rfl rfl rfl rfl rfl 0 1 rfl rfl rfl rfl (Nat.le_of_ble_eq_true rfl) ⟨show (v12.2.2.1 - n_a0_row_bytes) + 0 ≤ out.2.2.2.2.2.2.1 - n_a0_row_bytes by omega, show (2 * (v12.2.2.1 - n_a0_row_bytes)) + 0 ≤ 2 * (out.2.2.2.2.2.2.1 - n_a0_row_bytes) by omega⟩ (fun (_ : Unit) => [(q_a0, .inr (11, [.ref q_a0_row, .ref q_a0_reader, .ref q_a0_check, .ref r_a0_list, .ref r_a0_tableList, .ref r_a0_tables, .ref r_a0_groupTables, .ref q_a0_last, .ref q_a0_nexts, .ref q_a0_slots, .int x_a0_limit, .int x_a0_most, .int x_a0_blockAt, .int x_a0_originAt, .int x_a0_origin, .int x_a0_blockCheck, .int x_a0_tableCount, .int x_a0_groupCount, .int x_a0_lastCount])), (q_a0_slots, .inl (g_K C 0, 257, .inl u2.1)), (q_a0_last, .inl (g_K C 0, 2250, .inl f_a0_last)), (q_a0_nexts, .inl (g_K C 0, 2250, .inl u2.2)), (q_a0_check, .inr (5, [.ref q_a0_check_leaves, .int v12.2.1])), (q_a0_row, .inr (4, [.ref y38_a0_row_bytes, .int v12.2.2.2.2])), (y38_a0_row_bytes, .inl (g_K C 0, v12.2.2.1, .inl v12.2.2.2.1)), (q_a0_check_leaves, .inl (g_K C 0, 256, .inl f_a0_check_leaves)), (q_a0_reader, .inr (1, [.ref r_a0_reader_row, .int x_a0_reader_end, .int x_a0_reader_at, .int x_a0_reader_taken, .int u18.2.1, .int u18.2.2]))]) (fun _ => rfl) d_Unpacker_unrotate_192 (v12.2.2.1 - n_a0_row_bytes) (2 * (v12.2.2.1 - n_a0_row_bytes)) rfl rfl (fun _ => ?_)
      obtain ⟨e19, hf⟩ := gd_some hf
      exact g_re [0, 1, 2, 3, 4, 8, 5, 6, 7] [] rfl rfl rfl (kr y38_a0_row_bytes (u18.1, u2.1, u2.2, v12.2.1, u18.2.1, u18.2.2, v12.2.2.1, v12.2.2.2.1, v12.2.2.2.2) 195 [] (Option.some.inj hf) d_Unpacker_unrotate_195 (bl_nar e19))
  have Gu5 := lp_indM (b := (Unpacker_unrotate_L38 x_a0_lastCount u2 x_a0_limit f_a0_check_leaves f_a0_last)) (G := fun (s4 : (Int32 × Int32 × Int32 × Int32 × Int32 × Nat × (Nat → Int32) × Int32)) => ∀ (y38_a0_row_bytes : Nat), n_a0_row_bytes ≤ s4.2.2.2.2.2.1 → gAt C (s4.2.2.2.2.2.1 - n_a0_row_bytes) (2 * (s4.2.2.2.2.2.1 - n_a0_row_bytes)) [(q_a0, .inr (11, [.ref q_a0_row, .ref q_a0_reader, .ref q_a0_check, .ref r_a0_list, .ref r_a0_tableList, .ref r_a0_tables, .ref r_a0_groupTables, .ref q_a0_last, .ref q_a0_nexts, .ref q_a0_slots, .int x_a0_limit, .int x_a0_most, .int x_a0_blockAt, .int x_a0_originAt, .int x_a0_origin, .int x_a0_blockCheck, .int x_a0_tableCount, .int x_a0_groupCount, .int x_a0_lastCount])), (q_a0_slots, .inl (g_K C 0, 257, .inl u2.1)), (q_a0_last, .inl (g_K C 0, 2250, .inl f_a0_last)), (q_a0_nexts, .inl (g_K C 0, 2250, .inl u2.2)), (q_a0_check, .inr (5, [.ref q_a0_check_leaves, .int s4.2.2.2.2.1])), (q_a0_reader, .inr (1, [.ref r_a0_reader_row, .int x_a0_reader_end, .int x_a0_reader_at, .int x_a0_reader_taken, .int x_a0_reader_fault, .int x_a0_reader_faultAt])), (q_a0_row, .inr (4, [.ref y38_a0_row_bytes, .int s4.2.2.2.2.2.2.2])), (y38_a0_row_bytes, .inl (g_K C 0, s4.2.2.2.2.2.1, .inl s4.2.2.2.2.2.2.1)), (q_a0_check_leaves, .inl (g_K C 0, 256, .inl f_a0_check_leaves))] [(0, .ref q_a0), (1, .int s4.1), (2, .int s4.2.1), (3, .int s4.2.2.1), (4, .int s4.2.2.2.1)] 38 []) (o := u5) (m := (fun (w : (Int32 × Int32 × Int32 × Int32 × Int32 × Nat × (Nat → Int32) × Int32)) => w.2.2.2.2.2.1)) (me := (Sum.elim (fun (w : (Int32 × Nat × (Nat → Int32) × Int32)) => w.2.1) (Sum.elim (fun (w : (Int32 × Nat × (Nat → Int32) × Int32)) => w.2.1) (fun (w : (Int32 × Int32 × Nat × (Nat → Int32) × Int32)) => w.2.2.1)))) (B := out.2.2.2.2.2.2.1) (fun w u hb => Unpacker_unrotate_L38_mo hb) hB (by
      intro s4 u20 hf hI hX hU y38_a0_row_bytes hle
      have hfi : s4.2.2.2.2.2.1 ≤ out.2.2.2.2.2.2.1 := Nat.le_trans (Unpacker_unrotate_L38_mo hf) hU
      unfold Unpacker_unrotate_L38 at hf
      have J171 : ∀ (j171_0 : Int32) (j171_1 : Int32) (j171_2 : Int32) (j171_3 : Int32) (j171_4 : Nat) (j171_5 : (Nat → Int32)) (j171_6 : Int32) (y171_a0_row_bytes : Nat), n_a0_row_bytes ≤ j171_4 → Unpacker_unrotate_J171 s4 j171_0 j171_1 j171_2 j171_3 j171_4 j171_5 j171_6 = some u20 → gAt C (j171_4 - n_a0_row_bytes) (2 * (j171_4 - n_a0_row_bytes)) [(q_a0, .inr (11, [.ref q_a0_row, .ref q_a0_reader, .ref q_a0_check, .ref r_a0_list, .ref r_a0_tableList, .ref r_a0_tables, .ref r_a0_groupTables, .ref q_a0_last, .ref q_a0_nexts, .ref q_a0_slots, .int x_a0_limit, .int x_a0_most, .int x_a0_blockAt, .int x_a0_originAt, .int x_a0_origin, .int x_a0_blockCheck, .int x_a0_tableCount, .int x_a0_groupCount, .int x_a0_lastCount])), (q_a0_slots, .inl (g_K C 0, 257, .inl u2.1)), (q_a0_last, .inl (g_K C 0, 2250, .inl f_a0_last)), (q_a0_nexts, .inl (g_K C 0, 2250, .inl u2.2)), (q_a0_check, .inr (5, [.ref q_a0_check_leaves, .int j171_3])), (q_a0_reader, .inr (1, [.ref r_a0_reader_row, .int x_a0_reader_end, .int x_a0_reader_at, .int x_a0_reader_taken, .int x_a0_reader_fault, .int x_a0_reader_faultAt])), (q_a0_row, .inr (4, [.ref y171_a0_row_bytes, .int j171_6])), (y171_a0_row_bytes, .inl (g_K C 0, j171_4, .inl j171_5)), (q_a0_check_leaves, .inl (g_K C 0, 256, .inl f_a0_check_leaves))] [(0, .ref q_a0), (1, .int j171_0), (2, .int j171_1), (3, .int j171_2), (4, .int s4.2.2.2.1)] 171 [] := by
        intro j171_0 j171_1 j171_2 j171_3 j171_4 j171_5 j171_6 y171_a0_row_bytes hle hf
        have hfi : j171_4 ≤ out.2.2.2.2.2.2.1 := Nat.le_trans (show j171_4 ≤ (fun (w : (Int32 × Int32 × Int32 × Int32 × Int32 × Nat × (Nat → Int32) × Int32) ⊕ ((Int32 × Nat × (Nat → Int32) × Int32) ⊕ ((Int32 × Nat × (Nat → Int32) × Int32) ⊕ (Int32 × Int32 × Nat × (Nat → Int32) × Int32)))) => Sum.elim (fun (w : (Int32 × Int32 × Int32 × Int32 × Int32 × Nat × (Nat → Int32) × Int32)) => w.2.2.2.2.2.1) (Sum.elim (fun (w : (Int32 × Nat × (Nat → Int32) × Int32)) => w.2.1) (Sum.elim (fun (w : (Int32 × Nat × (Nat → Int32) × Int32)) => w.2.1) (fun (w : (Int32 × Int32 × Nat × (Nat → Int32) × Int32)) => w.2.2.1))) w) u20 from by
          exact Unpacker_unrotate_J171_mo hf) hU
        unfold Unpacker_unrotate_J171 at hf
        refine g_iinc 171 hC 4 (1 : Int32) [(4, .int (s4.2.2.2.1 + (1 : Int32))), (0, .ref q_a0), (1, .int j171_0), (2, .int j171_1), (3, .int j171_2)] rfl (by decide) (by decide) rfl d_Unpacker_unrotate_171 ?_
        refine g_goto 174 hC 38 (by decide) d_Unpacker_unrotate_174 ?_
        exact g_re [0, 1, 2, 3, 4, 5, 6, 7, 8] [1, 2, 3, 4, 0] rfl rfl rfl (hI (j171_0, j171_1, j171_2, (s4.2.2.2.1 + (1 : Int32)), j171_3, j171_4, j171_5, j171_6) hf y171_a0_row_bytes hle)
      have J167 : ∀ (j167_0 : Int32) (j167_1 : Int32) (j167_2 : Int32) (j167_3 : Int32) (j167_4 : Nat) (j167_5 : (Nat → Int32)) (j167_6 : Int32) (y167_a0_row_bytes : Nat), n_a0_row_bytes ≤ j167_4 → Unpacker_unrotate_J167 s4 j167_0 j167_1 j167_2 j167_3 j167_4 j167_5 j167_6 = some u20 → gAt C (j167_4 - n_a0_row_bytes) (2 * (j167_4 - n_a0_row_bytes)) [(q_a0, .inr (11, [.ref q_a0_row, .ref q_a0_reader, .ref q_a0_check, .ref r_a0_list, .ref r_a0_tableList, .ref r_a0_tables, .ref r_a0_groupTables, .ref q_a0_last, .ref q_a0_nexts, .ref q_a0_slots, .int x_a0_limit, .int x_a0_most, .int x_a0_blockAt, .int x_a0_originAt, .int x_a0_origin, .int x_a0_blockCheck, .int x_a0_tableCount, .int x_a0_groupCount, .int x_a0_lastCount])), (q_a0_slots, .inl (g_K C 0, 257, .inl u2.1)), (q_a0_last, .inl (g_K C 0, 2250, .inl f_a0_last)), (q_a0_nexts, .inl (g_K C 0, 2250, .inl u2.2)), (q_a0_check, .inr (5, [.ref q_a0_check_leaves, .int j167_3])), (q_a0_reader, .inr (1, [.ref r_a0_reader_row, .int x_a0_reader_end, .int x_a0_reader_at, .int x_a0_reader_taken, .int x_a0_reader_fault, .int x_a0_reader_faultAt])), (q_a0_row, .inr (4, [.ref y167_a0_row_bytes, .int j167_6])), (y167_a0_row_bytes, .inl (g_K C 0, j167_4, .inl j167_5)), (q_a0_check_leaves, .inl (g_K C 0, 256, .inl f_a0_check_leaves))] [(0, .ref q_a0), (3, .int j167_0), (4, .int s4.2.2.2.1), (5, .int j167_1)] 167 [.int j167_2] := by
        intro j167_0 j167_1 j167_2 j167_3 j167_4 j167_5 j167_6 y167_a0_row_bytes hle hf
        have hfi : j167_4 ≤ out.2.2.2.2.2.2.1 := Nat.le_trans (show j167_4 ≤ (fun (w : (Int32 × Int32 × Int32 × Int32 × Int32 × Nat × (Nat → Int32) × Int32) ⊕ ((Int32 × Nat × (Nat → Int32) × Int32) ⊕ ((Int32 × Nat × (Nat → Int32) × Int32) ⊕ (Int32 × Int32 × Nat × (Nat → Int32) × Int32)))) => Sum.elim (fun (w : (Int32 × Int32 × Int32 × Int32 × Int32 × Nat × (Nat → Int32) × Int32)) => w.2.2.2.2.2.1) (Sum.elim (fun (w : (Int32 × Nat × (Nat → Int32) × Int32)) => w.2.1) (Sum.elim (fun (w : (Int32 × Nat × (Nat → Int32) × Int32)) => w.2.1) (fun (w : (Int32 × Int32 × Nat × (Nat → Int32) × Int32)) => w.2.2.1))) w) u20 from by
          exact Unpacker_unrotate_J167_mo hf) hU
        unfold Unpacker_unrotate_J167 at hf
        refine g_istore_n 167 hC (lv2 := [(1, .int j167_2), (0, .ref q_a0), (3, .int j167_0), (4, .int s4.2.2.2.1), (5, .int j167_1)]) (hn := (by decide)) (hl2 := rfl) (hd := d_Unpacker_unrotate_167) ?_
        refine g_iload 168 hC (j := 4) (hj := rfl) (hd := d_Unpacker_unrotate_168) ?_
        refine g_istore_n 170 hC (lv2 := [(2, .int j167_1), (1, .int j167_2), (0, .ref q_a0), (3, .int j167_0), (4, .int s4.2.2.2.1), (5, .int j167_1)]) (hn := (by decide)) (hl2 := rfl) (hd := d_Unpacker_unrotate_170) ?_
        exact g_re [0, 1, 2, 3, 4, 5, 6, 7, 8] [2, 1, 0, 3, 4] rfl rfl rfl (J171 j167_2 j167_1 j167_0 j167_3 j167_4 j167_5 j167_6 y167_a0_row_bytes hle hf)
      have J124 : ∀ (j124_0 : Int32) (j124_1 : Int32) (j124_2 : Int32) (j124_3 : Int32) (j124_4 : Int32), n_a0_row_bytes ≤ s4.2.2.2.2.2.1 → Unpacker_unrotate_J124 s4 x_a0_limit f_a0_check_leaves j124_0 j124_1 j124_2 j124_3 j124_4 = some u20 → gAt C (s4.2.2.2.2.2.1 - n_a0_row_bytes) (2 * (s4.2.2.2.2.2.1 - n_a0_row_bytes)) [(q_a0, .inr (11, [.ref q_a0_row, .ref q_a0_reader, .ref q_a0_check, .ref r_a0_list, .ref r_a0_tableList, .ref r_a0_tables, .ref r_a0_groupTables, .ref q_a0_last, .ref q_a0_nexts, .ref q_a0_slots, .int x_a0_limit, .int x_a0_most, .int x_a0_blockAt, .int x_a0_originAt, .int x_a0_origin, .int x_a0_blockCheck, .int x_a0_tableCount, .int x_a0_groupCount, .int x_a0_lastCount])), (q_a0_slots, .inl (g_K C 0, 257, .inl u2.1)), (q_a0_last, .inl (g_K C 0, 2250, .inl f_a0_last)), (q_a0_nexts, .inl (g_K C 0, 2250, .inl u2.2)), (q_a0_check, .inr (5, [.ref q_a0_check_leaves, .int s4.2.2.2.2.1])), (q_a0_reader, .inr (1, [.ref r_a0_reader_row, .int x_a0_reader_end, .int x_a0_reader_at, .int x_a0_reader_taken, .int x_a0_reader_fault, .int x_a0_reader_faultAt])), (q_a0_row, .inr (4, [.ref y38_a0_row_bytes, .int s4.2.2.2.2.2.2.2])), (y38_a0_row_bytes, .inl (g_K C 0, s4.2.2.2.2.2.1, .inl s4.2.2.2.2.2.2.1)), (q_a0_check_leaves, .inl (g_K C 0, 256, .inl f_a0_check_leaves))] [(0, .ref q_a0), (1, .int s4.1), (2, .int s4.2.1), (3, .int j124_0), (4, .int s4.2.2.2.1), (5, .int j124_1), (6, .int j124_2)] 124 [.int j124_3, .int j124_4, .ref q_a0] := by
        intro j124_0 j124_1 j124_2 j124_3 j124_4 hle hf
        have hfi : s4.2.2.2.2.2.1 ≤ out.2.2.2.2.2.2.1 := Nat.le_trans (show s4.2.2.2.2.2.1 ≤ (fun (w : (Int32 × Int32 × Int32 × Int32 × Int32 × Nat × (Nat → Int32) × Int32) ⊕ ((Int32 × Nat × (Nat → Int32) × Int32) ⊕ ((Int32 × Nat × (Nat → Int32) × Int32) ⊕ (Int32 × Int32 × Nat × (Nat → Int32) × Int32)))) => Sum.elim (fun (w : (Int32 × Int32 × Int32 × Int32 × Int32 × Nat × (Nat → Int32) × Int32)) => w.2.2.2.2.2.1) (Sum.elim (fun (w : (Int32 × Nat × (Nat → Int32) × Int32)) => w.2.1) (Sum.elim (fun (w : (Int32 × Nat × (Nat → Int32) × Int32)) => w.2.1) (fun (w : (Int32 × Int32 × Nat × (Nat → Int32) × Int32)) => w.2.2.1))) w) u20 from by
          exact Unpacker_unrotate_J124_mo hf) hU
        unfold Unpacker_unrotate_J124 at hf
        obtain ⟨u21, hu21, hf⟩ := bd_some hf
        have lu21 : s4.2.2.2.2.2.1 ≤ u21.2.1 := Unpacker_giveOut_f_mo hu21
        have hfi : u21.2.1 ≤ out.2.2.2.2.2.2.1 := Nat.le_trans (show u21.2.1 ≤ (fun (w : (Int32 × Int32 × Int32 × Int32 × Int32 × Nat × (Nat → Int32) × Int32) ⊕ ((Int32 × Nat × (Nat → Int32) × Int32) ⊕ ((Int32 × Nat × (Nat → Int32) × Int32) ⊕ (Int32 × Int32 × Nat × (Nat → Int32) × Int32)))) => Sum.elim (fun (w : (Int32 × Int32 × Int32 × Int32 × Int32 × Nat × (Nat → Int32) × Int32)) => w.2.2.2.2.2.1) (Sum.elim (fun (w : (Int32 × Nat × (Nat → Int32) × Int32)) => w.2.1) (Sum.elim (fun (w : (Int32 × Nat × (Nat → Int32) × Int32)) => w.2.1) (fun (w : (Int32 × Int32 × Nat × (Nat → Int32) × Int32)) => w.2.2.1))) w) u20 from by
          have h := hf
          by_cases c22 : u21.1 = 0
          · have h := it_t c22 h
            exact mo_leaf (L := (fun (w : (Int32 × Int32 × Int32 × Int32 × Int32 × Nat × (Nat → Int32) × Int32) ⊕ ((Int32 × Nat × (Nat → Int32) × Int32) ⊕ ((Int32 × Nat × (Nat → Int32) × Int32) ⊕ (Int32 × Int32 × Nat × (Nat → Int32) × Int32)))) => Sum.elim (fun (w : (Int32 × Int32 × Int32 × Int32 × Int32 × Nat × (Nat → Int32) × Int32)) => w.2.2.2.2.2.1) (Sum.elim (fun (w : (Int32 × Nat × (Nat → Int32) × Int32)) => w.2.1) (Sum.elim (fun (w : (Int32 × Nat × (Nat → Int32) × Int32)) => w.2.1) (fun (w : (Int32 × Int32 × Nat × (Nat → Int32) × Int32)) => w.2.2.1))) w)) h (show u21.2.1 ≤ u21.2.1 by omega)
          · have h := it_f c22 h
            by_cases c23 : j124_2 = 0
            · have h := it_t c23 h
              by_cases c24 : j124_1 = s4.2.1
              · have h := it_t c24 h
                exact Nat.le_trans (show u21.2.1 ≤ u21.2.1 by omega) (Unpacker_unrotate_J167_mo h)
              · have h := it_f c24 h
                exact Nat.le_trans (show u21.2.1 ≤ u21.2.1 by omega) (Unpacker_unrotate_J167_mo h)
            · have h := it_f c23 h
              exact Nat.le_trans (show u21.2.1 ≤ u21.2.1 by omega) (Unpacker_unrotate_J171_mo h)) hU
        refine g_callVi 124 hC (c_Unpacker_giveOut (g_l C) (g_D C) (g_K C) q_a0 q_a0_row q_a0_reader q_a0_check r_a0_list r_a0_tableList r_a0_tables r_a0_groupTables q_a0_last q_a0_nexts q_a0_slots x_a0_limit x_a0_most x_a0_blockAt x_a0_originAt x_a0_origin x_a0_blockCheck x_a0_tableCount x_a0_groupCount x_a0_lastCount y38_a0_row_bytes s4.2.2.2.2.2.2.2 s4.2.2.2.2.2.1 s4.2.2.2.2.2.2.1 q_a0_check_leaves s4.2.2.2.2.1 f_a0_check_leaves j124_4 j124_3 u21 hu21) k1177 k12 k1174 k1176 ks35 2 rfl (by decide +kernel) ⟨Nat.le_of_ble_eq_true rfl, Nat.le_of_ble_eq_true rfl⟩ [0, 6, 7, 4, 8] [1, 2, 3, 5] [(q_a0_slots, .inl (g_K C 0, 257, .inl u2.1)), (q_a0_last, .inl (g_K C 0, 2250, .inl f_a0_last)), (q_a0_nexts, .inl (g_K C 0, 2250, .inl u2.2)), (q_a0_reader, .inr (1, [.ref r_a0_reader_row, .int x_a0_reader_end, .int x_a0_reader_at, .int x_a0_reader_taken, .int x_a0_reader_fault, .int x_a0_reader_faultAt]))] rfl rfl rfl rfl rfl 0 11 rfl rfl rfl rfl (Nat.le_of_ble_eq_true rfl) ⟨show (s4.2.2.2.2.2.1 - n_a0_row_bytes) + (u21.2.1 - s4.2.2.2.2.2.1) ≤ out.2.2.2.2.2.2.1 - n_a0_row_bytes by omega, show (2 * (s4.2.2.2.2.2.1 - n_a0_row_bytes)) + 2 * (u21.2.1 - s4.2.2.2.2.2.1) ≤ 2 * (out.2.2.2.2.2.2.1 - n_a0_row_bytes) by omega⟩ (fun (xu21 : Nat) => [(q_a0_slots, .inl (g_K C 0, 257, .inl u2.1)), (q_a0_last, .inl (g_K C 0, 2250, .inl f_a0_last)), (q_a0_nexts, .inl (g_K C 0, 2250, .inl u2.2)), (q_a0_reader, .inr (1, [.ref r_a0_reader_row, .int x_a0_reader_end, .int x_a0_reader_at, .int x_a0_reader_taken, .int x_a0_reader_fault, .int x_a0_reader_faultAt])), (q_a0, .inr (11, [.ref q_a0_row, .ref q_a0_reader, .ref q_a0_check, .ref r_a0_list, .ref r_a0_tableList, .ref r_a0_tables, .ref r_a0_groupTables, .ref q_a0_last, .ref q_a0_nexts, .ref q_a0_slots, .int x_a0_limit, .int x_a0_most, .int x_a0_blockAt, .int x_a0_originAt, .int x_a0_origin, .int x_a0_blockCheck, .int x_a0_tableCount, .int x_a0_groupCount, .int x_a0_lastCount])), (q_a0_row, .inr (4, [.ref xu21, .int u21.2.2.2.1])), (xu21, .inl (g_K C 0, u21.2.1, .inl u21.2.2.1)), (q_a0_check, .inr (5, [.ref q_a0_check_leaves, .int u21.2.2.2.2])), (q_a0_check_leaves, .inl (g_K C 0, 256, .inl f_a0_check_leaves))]) (fun _ => rfl) d_Unpacker_unrotate_124 (u21.2.1 - n_a0_row_bytes) (2 * (u21.2.1 - n_a0_row_bytes)) (show (s4.2.2.2.2.2.1 - n_a0_row_bytes) + (u21.2.1 - s4.2.2.2.2.2.1) = (u21.2.1 - n_a0_row_bytes) by omega) (show (2 * (s4.2.2.2.2.2.1 - n_a0_row_bytes)) + 2 * (u21.2.1 - s4.2.2.2.2.2.1) = (2 * (u21.2.1 - n_a0_row_bytes)) by omega) (fun xu21 => ?_)
        have hle : n_a0_row_bytes ≤ u21.2.1 := by omega
        refine g_if_ne 127 hC 144 (by decide) d_Unpacker_unrotate_127 (fun c22 => ?_) (fun c22 => ?_)
        · have hf := it_f c22 hf
          refine g_iload 144 hC (j := 6) (hj := rfl) (hd := d_Unpacker_unrotate_144) ?_
          refine g_if_eq 146 hC 154 (by decide) d_Unpacker_unrotate_146 (fun c23 => ?_) (fun c23 => ?_)
          · have hf := it_t c23 hf
            refine g_iload 154 hC (j := 5) (hj := rfl) (hd := d_Unpacker_unrotate_154) ?_
            refine g_iload_n 156 hC (j := 2) (hj := rfl) (hd := d_Unpacker_unrotate_156) ?_
            refine g_icmp_ne 157 hC 166 (by decide) d_Unpacker_unrotate_157 (fun c24 => ?_) (fun c24 => ?_)
            · have hf := it_f c24 hf
              refine g_iconst 166 hC (1 : Int32) (by decide) d_Unpacker_unrotate_166 ?_
              exact g_re [4, 0, 1, 2, 7, 3, 5, 6, 8] [0, 3, 4, 5] rfl rfl rfl (J167 j124_0 j124_1 (1 : Int32) u21.2.2.2.2 u21.2.1 u21.2.2.1 u21.2.2.2.1 xu21 hle hf)
            · have hf := it_t c24 hf
              refine g_iload_n 160 hC (j := 1) (hj := rfl) (hd := d_Unpacker_unrotate_160) ?_
              refine g_iconst 161 hC (1 : Int32) (by decide) d_Unpacker_unrotate_161 ?_
              refine g_iadd 162 hC d_Unpacker_unrotate_162 ?_
              refine g_goto 163 hC 167 (by decide) d_Unpacker_unrotate_163 ?_
              exact g_re [4, 0, 1, 2, 7, 3, 5, 6, 8] [0, 3, 4, 5] rfl rfl rfl (J167 j124_0 j124_1 (s4.1 + (1 : Int32)) u21.2.2.2.2 u21.2.1 u21.2.2.1 u21.2.2.2.1 xu21 hle hf)
          · have hf := it_f c23 hf
            refine g_iconst 149 hC (0 : Int32) (by decide) d_Unpacker_unrotate_149 ?_
            refine g_istore_n 150 hC (lv2 := [(1, .int (0 : Int32)), (0, .ref q_a0), (2, .int s4.2.1), (3, .int j124_0), (4, .int s4.2.2.2.1), (5, .int j124_1), (6, .int j124_2)]) (hn := (by decide)) (hl2 := rfl) (hd := d_Unpacker_unrotate_150) ?_
            refine g_goto 151 hC 171 (by decide) d_Unpacker_unrotate_151 ?_
            exact g_re [4, 0, 1, 2, 7, 3, 5, 6, 8] [1, 0, 2, 3, 4] rfl rfl rfl (J171 (0 : Int32) s4.2.1 j124_0 u21.2.2.2.2 u21.2.1 u21.2.2.1 u21.2.2.2.1 xu21 hle hf)
        · have hf := it_t c22 hf
          exact g_re [4, 0, 1, 2, 7, 3, 5, 6, 8] [0] rfl rfl rfl (Xu5_1 (u21.2.2.2.2, u21.2.1, u21.2.2.1, u21.2.2.2.1) (hX (Sum.inr (Sum.inl (u21.2.2.2.2, u21.2.1, u21.2.2.1, u21.2.2.2.1))) hf) xu21 hle)
      have J113 : ∀ (j113_0 : Int32) (j113_1 : Int32) (j113_2 : Int32) (j113_3 : Int32), n_a0_row_bytes ≤ s4.2.2.2.2.2.1 → Unpacker_unrotate_J113 s4 x_a0_limit f_a0_check_leaves j113_0 j113_1 j113_2 j113_3 = some u20 → gAt C (s4.2.2.2.2.2.1 - n_a0_row_bytes) (2 * (s4.2.2.2.2.2.1 - n_a0_row_bytes)) [(q_a0, .inr (11, [.ref q_a0_row, .ref q_a0_reader, .ref q_a0_check, .ref r_a0_list, .ref r_a0_tableList, .ref r_a0_tables, .ref r_a0_groupTables, .ref q_a0_last, .ref q_a0_nexts, .ref q_a0_slots, .int x_a0_limit, .int x_a0_most, .int x_a0_blockAt, .int x_a0_originAt, .int x_a0_origin, .int x_a0_blockCheck, .int x_a0_tableCount, .int x_a0_groupCount, .int x_a0_lastCount])), (q_a0_slots, .inl (g_K C 0, 257, .inl u2.1)), (q_a0_last, .inl (g_K C 0, 2250, .inl f_a0_last)), (q_a0_nexts, .inl (g_K C 0, 2250, .inl u2.2)), (q_a0_check, .inr (5, [.ref q_a0_check_leaves, .int s4.2.2.2.2.1])), (q_a0_reader, .inr (1, [.ref r_a0_reader_row, .int x_a0_reader_end, .int x_a0_reader_at, .int x_a0_reader_taken, .int x_a0_reader_fault, .int x_a0_reader_faultAt])), (q_a0_row, .inr (4, [.ref y38_a0_row_bytes, .int s4.2.2.2.2.2.2.2])), (y38_a0_row_bytes, .inl (g_K C 0, s4.2.2.2.2.2.1, .inl s4.2.2.2.2.2.2.1)), (q_a0_check_leaves, .inl (g_K C 0, 256, .inl f_a0_check_leaves))] [(0, .ref q_a0), (1, .int s4.1), (2, .int s4.2.1), (3, .int j113_0), (4, .int s4.2.2.2.1), (5, .int j113_1), (6, .int j113_2)] 113 [.int j113_3, .ref q_a0] := by
        intro j113_0 j113_1 j113_2 j113_3 hle hf
        have hfi : s4.2.2.2.2.2.1 ≤ out.2.2.2.2.2.2.1 := Nat.le_trans (show s4.2.2.2.2.2.1 ≤ (fun (w : (Int32 × Int32 × Int32 × Int32 × Int32 × Nat × (Nat → Int32) × Int32) ⊕ ((Int32 × Nat × (Nat → Int32) × Int32) ⊕ ((Int32 × Nat × (Nat → Int32) × Int32) ⊕ (Int32 × Int32 × Nat × (Nat → Int32) × Int32)))) => Sum.elim (fun (w : (Int32 × Int32 × Int32 × Int32 × Int32 × Nat × (Nat → Int32) × Int32)) => w.2.2.2.2.2.1) (Sum.elim (fun (w : (Int32 × Nat × (Nat → Int32) × Int32)) => w.2.1) (Sum.elim (fun (w : (Int32 × Nat × (Nat → Int32) × Int32)) => w.2.1) (fun (w : (Int32 × Int32 × Nat × (Nat → Int32) × Int32)) => w.2.2.1))) w) u20 from by
          exact Unpacker_unrotate_J113_mo hf) hU
        unfold Unpacker_unrotate_J113 at hf
        refine g_iload 113 hC (j := 6) (hj := rfl) (hd := d_Unpacker_unrotate_113) ?_
        refine g_if_eq 115 hC 123 (by decide) d_Unpacker_unrotate_115 (fun c25 => ?_) (fun c25 => ?_)
        · have hf := it_t c25 hf
          refine g_iconst 123 hC (1 : Int32) (by decide) d_Unpacker_unrotate_123 ?_
          exact J124 j113_0 j113_1 j113_2 (1 : Int32) j113_3 hle hf
        · have hf := it_f c25 hf
          refine g_iload 118 hC (j := 5) (hj := rfl) (hd := d_Unpacker_unrotate_118) ?_
          refine g_goto 120 hC 124 (by decide) d_Unpacker_unrotate_120 ?_
          exact J124 j113_0 j113_1 j113_2 j113_1 j113_3 hle hf
      have J101 : ∀ (j101_0 : Int32) (j101_1 : Int32) (j101_2 : Int32), n_a0_row_bytes ≤ s4.2.2.2.2.2.1 → Unpacker_unrotate_J101 s4 x_a0_limit f_a0_check_leaves j101_0 j101_1 j101_2 = some u20 → gAt C (s4.2.2.2.2.2.1 - n_a0_row_bytes) (2 * (s4.2.2.2.2.2.1 - n_a0_row_bytes)) [(q_a0, .inr (11, [.ref q_a0_row, .ref q_a0_reader, .ref q_a0_check, .ref r_a0_list, .ref r_a0_tableList, .ref r_a0_tables, .ref r_a0_groupTables, .ref q_a0_last, .ref q_a0_nexts, .ref q_a0_slots, .int x_a0_limit, .int x_a0_most, .int x_a0_blockAt, .int x_a0_originAt, .int x_a0_origin, .int x_a0_blockCheck, .int x_a0_tableCount, .int x_a0_groupCount, .int x_a0_lastCount])), (q_a0_slots, .inl (g_K C 0, 257, .inl u2.1)), (q_a0_last, .inl (g_K C 0, 2250, .inl f_a0_last)), (q_a0_nexts, .inl (g_K C 0, 2250, .inl u2.2)), (q_a0_check, .inr (5, [.ref q_a0_check_leaves, .int s4.2.2.2.2.1])), (q_a0_reader, .inr (1, [.ref r_a0_reader_row, .int x_a0_reader_end, .int x_a0_reader_at, .int x_a0_reader_taken, .int x_a0_reader_fault, .int x_a0_reader_faultAt])), (q_a0_row, .inr (4, [.ref y38_a0_row_bytes, .int s4.2.2.2.2.2.2.2])), (y38_a0_row_bytes, .inl (g_K C 0, s4.2.2.2.2.2.1, .inl s4.2.2.2.2.2.2.1)), (q_a0_check_leaves, .inl (g_K C 0, 256, .inl f_a0_check_leaves))] [(0, .ref q_a0), (1, .int s4.1), (2, .int s4.2.1), (3, .int j101_0), (4, .int s4.2.2.2.1), (5, .int j101_1), (6, .int j101_2)] 101 [] := by
        intro j101_0 j101_1 j101_2 hle hf
        have hfi : s4.2.2.2.2.2.1 ≤ out.2.2.2.2.2.2.1 := Nat.le_trans (show s4.2.2.2.2.2.1 ≤ (fun (w : (Int32 × Int32 × Int32 × Int32 × Int32 × Nat × (Nat → Int32) × Int32) ⊕ ((Int32 × Nat × (Nat → Int32) × Int32) ⊕ ((Int32 × Nat × (Nat → Int32) × Int32) ⊕ (Int32 × Int32 × Nat × (Nat → Int32) × Int32)))) => Sum.elim (fun (w : (Int32 × Int32 × Int32 × Int32 × Int32 × Nat × (Nat → Int32) × Int32)) => w.2.2.2.2.2.1) (Sum.elim (fun (w : (Int32 × Nat × (Nat → Int32) × Int32)) => w.2.1) (Sum.elim (fun (w : (Int32 × Nat × (Nat → Int32) × Int32)) => w.2.1) (fun (w : (Int32 × Int32 × Nat × (Nat → Int32) × Int32)) => w.2.2.1))) w) u20 from by
          exact Unpacker_unrotate_J101_mo hf) hU
        unfold Unpacker_unrotate_J101 at hf
        refine g_aload_n 101 hC (j := 0) (hj := rfl) (hd := d_Unpacker_unrotate_101) ?_
        refine g_iload 102 hC (j := 6) (hj := rfl) (hd := d_Unpacker_unrotate_102) ?_
        refine g_if_eq 104 hC 111 (by decide) d_Unpacker_unrotate_104 (fun c26 => ?_) (fun c26 => ?_)
        · have hf := it_t c26 hf
          refine g_iload 111 hC (j := 5) (hj := rfl) (hd := d_Unpacker_unrotate_111) ?_
          exact J113 j101_0 j101_1 j101_2 j101_1 hle hf
        · have hf := it_f c26 hf
          refine g_iload_n 107 hC (j := 2) (hj := rfl) (hd := d_Unpacker_unrotate_107) ?_
          refine g_goto 108 hC 113 (by decide) d_Unpacker_unrotate_108 ?_
          exact J113 j101_0 j101_1 j101_2 s4.2.1 hle hf
      have J72 : ∀ (j72_0 : Int32) (j72_1 : Int32) (j72_2 : Int32), n_a0_row_bytes ≤ s4.2.2.2.2.2.1 → Unpacker_unrotate_J72 s4 x_a0_limit f_a0_check_leaves j72_0 j72_1 j72_2 = some u20 → gAt C (s4.2.2.2.2.2.1 - n_a0_row_bytes) (2 * (s4.2.2.2.2.2.1 - n_a0_row_bytes)) [(q_a0, .inr (11, [.ref q_a0_row, .ref q_a0_reader, .ref q_a0_check, .ref r_a0_list, .ref r_a0_tableList, .ref r_a0_tables, .ref r_a0_groupTables, .ref q_a0_last, .ref q_a0_nexts, .ref q_a0_slots, .int x_a0_limit, .int x_a0_most, .int x_a0_blockAt, .int x_a0_originAt, .int x_a0_origin, .int x_a0_blockCheck, .int x_a0_tableCount, .int x_a0_groupCount, .int x_a0_lastCount])), (q_a0_slots, .inl (g_K C 0, 257, .inl u2.1)), (q_a0_last, .inl (g_K C 0, 2250, .inl f_a0_last)), (q_a0_nexts, .inl (g_K C 0, 2250, .inl u2.2)), (q_a0_check, .inr (5, [.ref q_a0_check_leaves, .int s4.2.2.2.2.1])), (q_a0_reader, .inr (1, [.ref r_a0_reader_row, .int x_a0_reader_end, .int x_a0_reader_at, .int x_a0_reader_taken, .int x_a0_reader_fault, .int x_a0_reader_faultAt])), (q_a0_row, .inr (4, [.ref y38_a0_row_bytes, .int s4.2.2.2.2.2.2.2])), (y38_a0_row_bytes, .inl (g_K C 0, s4.2.2.2.2.2.1, .inl s4.2.2.2.2.2.2.1)), (q_a0_check_leaves, .inl (g_K C 0, 256, .inl f_a0_check_leaves))] [(0, .ref q_a0), (1, .int s4.1), (2, .int s4.2.1), (3, .int j72_0), (4, .int s4.2.2.2.1), (5, .int j72_1)] 72 [.int j72_2] := by
        intro j72_0 j72_1 j72_2 hle hf
        have hfi : s4.2.2.2.2.2.1 ≤ out.2.2.2.2.2.2.1 := Nat.le_trans (show s4.2.2.2.2.2.1 ≤ (fun (w : (Int32 × Int32 × Int32 × Int32 × Int32 × Nat × (Nat → Int32) × Int32) ⊕ ((Int32 × Nat × (Nat → Int32) × Int32) ⊕ ((Int32 × Nat × (Nat → Int32) × Int32) ⊕ (Int32 × Int32 × Nat × (Nat → Int32) × Int32)))) => Sum.elim (fun (w : (Int32 × Int32 × Int32 × Int32 × Int32 × Nat × (Nat → Int32) × Int32)) => w.2.2.2.2.2.1) (Sum.elim (fun (w : (Int32 × Nat × (Nat → Int32) × Int32)) => w.2.1) (Sum.elim (fun (w : (Int32 × Nat × (Nat → Int32) × Int32)) => w.2.1) (fun (w : (Int32 × Int32 × Nat × (Nat → Int32) × Int32)) => w.2.2.1))) w) u20 from by
          exact Unpacker_unrotate_J72_mo hf) hU
        unfold Unpacker_unrotate_J72 at hf
        refine g_istore 72 hC (lv2 := [(6, .int j72_2), (0, .ref q_a0), (1, .int s4.1), (2, .int s4.2.1), (3, .int j72_0), (4, .int s4.2.2.2.1), (5, .int j72_1)]) (hn := (by decide)) (hl2 := rfl) (hd := d_Unpacker_unrotate_72) ?_
        refine g_iload 74 hC (j := 0) (hj := rfl) (hd := d_Unpacker_unrotate_74) ?_
        refine g_if_eq 76 hC 101 (by decide) d_Unpacker_unrotate_76 (fun c27 => ?_) (fun c27 => ?_)
        · have hf := it_t c27 hf
          exact g_re [0, 1, 2, 3, 4, 5, 6, 7, 8] [1, 2, 3, 4, 5, 6, 0] rfl rfl rfl (J101 j72_0 j72_1 j72_2 hle hf)
        · have hf := it_f c27 hf
          refine g_iload 79 hC (j := 6) (hj := rfl) (hd := d_Unpacker_unrotate_79) ?_
          refine g_sipush 81 hC (251 : Int32) (by decide) d_Unpacker_unrotate_81 ?_
          refine g_icmp_le 84 hC 101 (by decide) d_Unpacker_unrotate_84 (fun c28 => ?_) (fun c28 => ?_)
          · have hf := it_t c28 hf
            exact g_re [0, 1, 2, 3, 4, 5, 6, 7, 8] [1, 2, 3, 4, 5, 6, 0] rfl rfl rfl (J101 j72_0 j72_1 j72_2 hle hf)
          · have hf := it_f c28 hf
            exact g_re [0, 1, 2, 3, 4, 5, 6, 7, 8] [1] rfl rfl rfl (Xu5_0 (s4.2.2.2.2.1, s4.2.2.2.2.2.1, s4.2.2.2.2.2.2.1, s4.2.2.2.2.2.2.2) (hX (Sum.inl (s4.2.2.2.2.1, s4.2.2.2.2.2.1, s4.2.2.2.2.2.2.1, s4.2.2.2.2.2.2.2)) hf) y38_a0_row_bytes hle)
      refine g_iload 38 hC (j := 4) (hj := rfl) (hd := d_Unpacker_unrotate_38) ?_
      refine g_aload_n 40 hC (j := 0) (hj := rfl) (hd := d_Unpacker_unrotate_40) ?_
      refine g_get 41 hC i_Unpacker rfl 0 rfl 18 (by decide) k377 rfl d_Unpacker_unrotate_41 ?_
      refine g_icmp_ge 44 hC 177 (by decide) d_Unpacker_unrotate_44 (fun c29 => ?_) (fun c29 => ?_)
      · have hf := it_t c29 hf
        exact g_re [0, 1, 2, 3, 4, 5, 6, 7, 8] [0, 1] rfl rfl rfl (Xu5_2 (s4.1, s4.2.2.2.2.1, s4.2.2.2.2.2.1, s4.2.2.2.2.2.2.1, s4.2.2.2.2.2.2.2) (hX (Sum.inr (Sum.inr (s4.1, s4.2.2.2.2.1, s4.2.2.2.2.2.1, s4.2.2.2.2.2.2.1, s4.2.2.2.2.2.2.2))) hf) y38_a0_row_bytes hle)
      · have hf := it_f c29 hf
        refine g_aload_n 47 hC (j := 0) (hj := rfl) (hd := d_Unpacker_unrotate_47) ?_
        refine g_get 48 hC i_Unpacker rfl 0 rfl 8 (by decide) k367 rfl d_Unpacker_unrotate_48 ?_
        refine g_iload_n 51 hC (j := 3) (hj := rfl) (hd := d_Unpacker_unrotate_51) ?_
        obtain ⟨e30, hf⟩ := gd_some hf
        refine g_iald 52 hC 3 rfl e30 d_Unpacker_unrotate_52 ?_
        refine g_istore_n 53 hC (lv2 := [(3, .int (u2.2 s4.2.2.1.toNatClampNeg)), (0, .ref q_a0), (1, .int s4.1), (2, .int s4.2.1), (4, .int s4.2.2.2.1)]) (hn := (by decide)) (hl2 := rfl) (hd := d_Unpacker_unrotate_53) ?_
        refine g_aload_n 54 hC (j := 1) (hj := rfl) (hd := d_Unpacker_unrotate_54) ?_
        refine g_get 55 hC i_Unpacker rfl 0 rfl 7 (by decide) k366 rfl d_Unpacker_unrotate_55 ?_
        refine g_iload_n 58 hC (j := 0) (hj := rfl) (hd := d_Unpacker_unrotate_58) ?_
        obtain ⟨e31, hf⟩ := gd_some hf
        refine g_iald 59 hC 2 rfl e31 d_Unpacker_unrotate_59 ?_
        refine g_istore 60 hC (lv2 := [(5, .int (f_a0_last (u2.2 s4.2.2.1.toNatClampNeg).toNatClampNeg)), (3, .int (u2.2 s4.2.2.1.toNatClampNeg)), (0, .ref q_a0), (1, .int s4.1), (2, .int s4.2.1), (4, .int s4.2.2.2.1)]) (hn := (by decide)) (hl2 := rfl) (hd := d_Unpacker_unrotate_60) ?_
        refine g_iload_n 62 hC (j := 3) (hj := rfl) (hd := d_Unpacker_unrotate_62) ?_
        refine g_iconst 63 hC (4 : Int32) (by decide) d_Unpacker_unrotate_63 ?_
        refine g_icmp_ne 64 hC 71 (by decide) d_Unpacker_unrotate_64 (fun c32 => ?_) (fun c32 => ?_)
        · have hf := it_f c32 hf
          refine g_iconst 71 hC (0 : Int32) (by decide) d_Unpacker_unrotate_71 ?_
          exact g_re [0, 1, 2, 3, 4, 5, 6, 7, 8] [2, 3, 4, 1, 5, 0] rfl rfl rfl (J72 (u2.2 s4.2.2.1.toNatClampNeg) (f_a0_last (u2.2 s4.2.2.1.toNatClampNeg).toNatClampNeg) (0 : Int32) hle hf)
        · have hf := it_t c32 hf
          refine g_iconst 67 hC (1 : Int32) (by decide) d_Unpacker_unrotate_67 ?_
          refine g_goto 68 hC 72 (by decide) d_Unpacker_unrotate_68 ?_
          exact g_re [0, 1, 2, 3, 4, 5, 6, 7, 8] [2, 3, 4, 1, 5, 0] rfl rfl rfl (J72 (u2.2 s4.2.2.1.toNatClampNeg) (f_a0_last (u2.2 s4.2.2.1.toNatClampNeg).toNatClampNeg) (1 : Int32) hle hf)) gas
  exact g_re [0, 5, 6, 7, 8, 1, 2, 3, 4] [4, 3, 2, 1, 0] rfl rfl rfl (Gu5 ((0 : Int32), (-1 : Int32), x_a0_origin, (0 : Int32), u3, n_a0_row_bytes, f_a0_row_bytes, x_a0_row_count) hu5 q_a0_row_bytes hle)
theorem c_Unpacker_unrotate (l : Launch) (D : va_G) (K : Nat → ClassId) (q_a0 : Nat) (q_a0_row : Nat) (q_a0_reader : Nat) (q_a0_check : Nat) (r_a0_list : Nat) (r_a0_tableList : Nat) (r_a0_tables : Nat) (r_a0_groupTables : Nat) (q_a0_last : Nat) (q_a0_nexts : Nat) (q_a0_slots : Nat) (x_a0_limit : Int32) (x_a0_most : Int32) (x_a0_blockAt : Int32) (x_a0_originAt : Int32) (x_a0_origin : Int32) (x_a0_blockCheck : Int32) (x_a0_tableCount : Int32) (x_a0_groupCount : Int32) (x_a0_lastCount : Int32) (f_a0_slots : (Nat → Int32)) (f_a0_last : (Nat → Int32)) (f_a0_nexts : (Nat → Int32)) (q_a0_check_leaves : Nat) (x_a0_check_bits : Int32) (r_a0_reader_row : Nat) (x_a0_reader_end : Int32) (x_a0_reader_at : Int32) (x_a0_reader_taken : Int32) (x_a0_reader_fault : Int32) (x_a0_reader_faultAt : Int32) (q_a0_row_bytes : Nat) (x_a0_row_count : Int32) (n_a0_row_bytes : Nat) (f_a0_row_bytes : (Nat → Int32)) (f_a0_check_leaves : (Nat → Int32)) (out : (Int32 × (Nat → Int32) × (Nat → Int32) × Int32 × Int32 × Int32 × Nat × (Nat → Int32) × Int32)) (hf : Unpacker_unrotate_f f_a0_slots x_a0_lastCount f_a0_last f_a0_nexts x_a0_limit f_a0_check_leaves x_a0_origin n_a0_row_bytes f_a0_row_bytes x_a0_row_count x_a0_blockAt x_a0_blockCheck x_a0_reader_fault x_a0_reader_faultAt = some out) : Ci l D K y_Unpacker_unrotate (g_wd y_Unpacker_unrotate b_Unpacker_unrotate 7 (some .boolean)) { frames := 4, cells := out.2.2.2.2.2.2.1 - n_a0_row_bytes, slots := 2 * (out.2.2.2.2.2.2.1 - n_a0_row_bytes), locals := 111 } [.ref q_a0] [(q_a0, .inr (11, [.ref q_a0_row, .ref q_a0_reader, .ref q_a0_check, .ref r_a0_list, .ref r_a0_tableList, .ref r_a0_tables, .ref r_a0_groupTables, .ref q_a0_last, .ref q_a0_nexts, .ref q_a0_slots, .int x_a0_limit, .int x_a0_most, .int x_a0_blockAt, .int x_a0_originAt, .int x_a0_origin, .int x_a0_blockCheck, .int x_a0_tableCount, .int x_a0_groupCount, .int x_a0_lastCount])), (q_a0_slots, .inl (K 0, 257, .inl f_a0_slots)), (q_a0_last, .inl (K 0, 2250, .inl f_a0_last)), (q_a0_nexts, .inl (K 0, 2250, .inl f_a0_nexts)), (q_a0_check, .inr (5, [.ref q_a0_check_leaves, .int x_a0_check_bits])), (q_a0_reader, .inr (1, [.ref r_a0_reader_row, .int x_a0_reader_end, .int x_a0_reader_at, .int x_a0_reader_taken, .int x_a0_reader_fault, .int x_a0_reader_faultAt])), (q_a0_row, .inr (4, [.ref q_a0_row_bytes, .int x_a0_row_count])), (q_a0_row_bytes, .inl (K 0, n_a0_row_bytes, .inl f_a0_row_bytes)), (q_a0_check_leaves, .inl (K 0, 256, .inl f_a0_check_leaves))] (fun (x : Nat) => [(q_a0, .inr (11, [.ref q_a0_row, .ref q_a0_reader, .ref q_a0_check, .ref r_a0_list, .ref r_a0_tableList, .ref r_a0_tables, .ref r_a0_groupTables, .ref q_a0_last, .ref q_a0_nexts, .ref q_a0_slots, .int x_a0_limit, .int x_a0_most, .int x_a0_blockAt, .int x_a0_originAt, .int x_a0_origin, .int x_a0_blockCheck, .int x_a0_tableCount, .int x_a0_groupCount, .int x_a0_lastCount])), (q_a0_slots, .inl (K 0, 257, .inl out.2.1)), (q_a0_last, .inl (K 0, 2250, .inl f_a0_last)), (q_a0_nexts, .inl (K 0, 2250, .inl out.2.2.1)), (q_a0_check, .inr (5, [.ref q_a0_check_leaves, .int out.2.2.2.1])), (q_a0_reader, .inr (1, [.ref r_a0_reader_row, .int x_a0_reader_end, .int x_a0_reader_at, .int x_a0_reader_taken, .int out.2.2.2.2.1, .int out.2.2.2.2.2.1])), (q_a0_row, .inr (4, [.ref x, .int out.2.2.2.2.2.2.2.2])), (x, .inl (K 0, out.2.2.2.2.2.2.1, .inl out.2.2.2.2.2.2.2.1)), (q_a0_check_leaves, .inl (K 0, 256, .inl f_a0_check_leaves))]) out.1 := mk_i (by decide) (Nat.le_of_ble_eq_true rfl) (fun p e s m below meth c A Q hC kr => m_Unpacker_unrotate q_a0 q_a0_row q_a0_reader q_a0_check r_a0_list r_a0_tableList r_a0_tables r_a0_groupTables q_a0_last q_a0_nexts q_a0_slots x_a0_limit x_a0_most x_a0_blockAt x_a0_originAt x_a0_origin x_a0_blockCheck x_a0_tableCount x_a0_groupCount x_a0_lastCount f_a0_slots f_a0_last f_a0_nexts q_a0_check_leaves x_a0_check_bits r_a0_reader_row x_a0_reader_end x_a0_reader_at x_a0_reader_taken x_a0_reader_fault x_a0_reader_faultAt q_a0_row_bytes x_a0_row_count n_a0_row_bytes f_a0_row_bytes f_a0_check_leaves out hC hf (fun x o9 pc lv ho => by subst ho; exact kr x pc lv))
