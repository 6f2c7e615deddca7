set_option maxRecDepth 100000 in
set_option maxHeartbeats 4000000 in
theorem aX12_isLeaf (d : Nat) (q : m_S) (hM : isM q) (a1 : Int32) (a2 : Int32) (a3 : Int32) (a4 : Int32) : AC rI yX12_isLeaf cX12_isLeaf 6 (some .boolean) (d + 2) [.ref 218, .int a1, .int a2, .int a3, .int a4] q (fX12_isLeaf a1 a2 a3 a4) := by
  refine ac_of (by decide +kernel) (Nat.le_of_ble_eq_true rfl) ?_
  unfold fX12_isLeaf
  show MF rI (yX12_isLeaf.cls, cX12_isLeaf, 6, (some .boolean), yX12_isLeaf.name, d + 2, 0, 0) 0 [(0, .ref 218), (1, .int a1), (2, .int a2), (3, .int a3), (4, .int a4)] [] q _
  refine mf_iload_n 2 dX12_isLeaf_0 rfl ?_
  refine mf_case (v := 0) (tgt := 36) (off := 35) dX12_isLeaf_1 (by decide) (by decide) (by decide) (by decide) ?_ (fun t1_0 => ?_)
  · refine mf_aload_n 0 dX12_isLeaf_36 rfl ?_
    refine mf_getr 12 6 dX12_isLeaf_37 fl_X12_33 (by decide) (by decide) rfl (mo_o hM) (mo_r6 hM) (by decide) ?_
    refine mf_sipush (v := 271) dX12_isLeaf_40 (by decide) ?_
    refine mf_iload_n 1 dX12_isLeaf_43 rfl ?_
    refine mf_iadd dX12_isLeaf_44 ?_
    refine mf_iald dX12_isLeaf_45 (mo_a6 hM) (fun v1 => ?_)
    refine mf_if_ne (tgt := 53) dX12_isLeaf_46 (by decide) ?_ ?_
    · refine mf_iconst (v := 0) dX12_isLeaf_53 rfl ?_
      exact mf_ireturn dX12_isLeaf_54 rfl rfl ⟨rfl, rfl⟩
    · refine mf_iconst (v := 1) dX12_isLeaf_49 rfl ?_
      refine mf_goto (tgt := 54) dX12_isLeaf_50 (by decide) ?_
      exact mf_ireturn dX12_isLeaf_54 rfl rfl ⟨rfl, rfl⟩
  refine mf_case (v := 1) (tgt := 55) (off := 54) dX12_isLeaf_1 (by decide) (by decide) (by decide) (by decide) ?_ (fun t1_1 => ?_)
  · refine mf_aload_n 0 dX12_isLeaf_55 rfl ?_
    refine mf_getr 12 6 dX12_isLeaf_56 fl_X12_33 (by decide) (by decide) rfl (mo_o hM) (mo_r6 hM) (by decide) ?_
    refine mf_sipush (v := 281) dX12_isLeaf_59 (by decide) ?_
    refine mf_iald dX12_isLeaf_62 (mo_a6 hM) (fun v2 => ?_)
    refine mf_iload_n 1 dX12_isLeaf_63 rfl ?_
    refine mf_cSi (rest := []) [.int v2, .int a1] (aX12_bitOf (d + 0) q v2 a1) mY_X12_bitOf dX12_isLeaf_64 ml_X12_280 rfl rfl (Nat.le_of_ble_eq_true rfl) rfl (fun v3 => ?_)
    exact mf_zreturn dX12_isLeaf_67 rfl ⟨rfl, rfl⟩
  refine mf_case (v := 2) (tgt := 68) (off := 67) dX12_isLeaf_1 (by decide) (by decide) (by decide) (by decide) ?_ (fun t1_2 => ?_)
  · refine mf_aload_n 0 dX12_isLeaf_68 rfl ?_
    refine mf_getr 12 6 dX12_isLeaf_69 fl_X12_33 (by decide) (by decide) rfl (mo_o hM) (mo_r6 hM) (by decide) ?_
    refine mf_sipush (v := 282) dX12_isLeaf_72 (by decide) ?_
    refine mf_iald dX12_isLeaf_75 (mo_a6 hM) (fun v4 => ?_)
    refine mf_iload_n 1 dX12_isLeaf_76 rfl ?_
    refine mf_cSi (rest := []) [.int v4, .int a1] (aX12_bitOf (d + 0) q v4 a1) mY_X12_bitOf dX12_isLeaf_77 ml_X12_280 rfl rfl (Nat.le_of_ble_eq_true rfl) rfl (fun v5 => ?_)
    exact mf_zreturn dX12_isLeaf_80 rfl ⟨rfl, rfl⟩
  refine mf_case (v := 3) (tgt := 81) (off := 80) dX12_isLeaf_1 (by decide) (by decide) (by decide) (by decide) ?_ (fun t1_3 => ?_)
  · refine mf_aload_n 0 dX12_isLeaf_81 rfl ?_
    refine mf_getr 12 6 dX12_isLeaf_82 fl_X12_33 (by decide) (by decide) rfl (mo_o hM) (mo_r6 hM) (by decide) ?_
    refine mf_sipush (v := 271) dX12_isLeaf_85 (by decide) ?_
    refine mf_iload_n 1 dX12_isLeaf_88 rfl ?_
    refine mf_iadd dX12_isLeaf_89 ?_
    refine mf_iald dX12_isLeaf_90 (mo_a6 hM) (fun v6 => ?_)
    refine mf_iload 4 dX12_isLeaf_91 rfl ?_
    refine mf_iconst (v := 1) dX12_isLeaf_93 rfl ?_
    refine mf_iadd dX12_isLeaf_94 ?_
    refine mf_icmp_ne (tgt := 102) dX12_isLeaf_95 (by decide) ?_ ?_
    · refine mf_iconst (v := 0) dX12_isLeaf_102 rfl ?_
      exact mf_ireturn dX12_isLeaf_103 rfl rfl ⟨rfl, rfl⟩
    · refine mf_iconst (v := 1) dX12_isLeaf_98 rfl ?_
      refine mf_goto (tgt := 103) dX12_isLeaf_99 (by decide) ?_
      exact mf_ireturn dX12_isLeaf_103 rfl rfl ⟨rfl, rfl⟩
  refine mf_case (v := 4) (tgt := 104) (off := 103) dX12_isLeaf_1 (by decide) (by decide) (by decide) (by decide) ?_ (fun t1_4 => ?_)
  · refine mf_aload_n 0 dX12_isLeaf_104 rfl ?_
    refine mf_getr 12 6 dX12_isLeaf_105 fl_X12_33 (by decide) (by decide) rfl (mo_o hM) (mo_r6 hM) (by decide) ?_
    refine mf_sipush (v := 249) dX12_isLeaf_108 (by decide) ?_
    refine mf_iload 4 dX12_isLeaf_111 rfl ?_
    refine mf_iadd dX12_isLeaf_113 ?_
    refine mf_iald dX12_isLeaf_114 (mo_a6 hM) (fun v7 => ?_)
    refine mf_iload_n 1 dX12_isLeaf_115 rfl ?_
    refine mf_iconst (v := 1) dX12_isLeaf_116 rfl ?_
    refine mf_iadd dX12_isLeaf_117 ?_
    refine mf_icmp_ne (tgt := 125) dX12_isLeaf_118 (by decide) ?_ ?_
    · refine mf_iconst (v := 0) dX12_isLeaf_125 rfl ?_
      exact mf_ireturn dX12_isLeaf_126 rfl rfl ⟨rfl, rfl⟩
    · refine mf_iconst (v := 1) dX12_isLeaf_121 rfl ?_
      refine mf_goto (tgt := 126) dX12_isLeaf_122 (by decide) ?_
      exact mf_ireturn dX12_isLeaf_126 rfl rfl ⟨rfl, rfl⟩
  refine mf_dflt (tgt := 127) dX12_isLeaf_1 (by have := lv_neT t1_0 (a := 0) (by decide); have := lv_neT t1_1 (a := 1) (by decide); have := lv_neT t1_2 (a := 2) (by decide); have := lv_neT t1_3 (a := 3) (by decide); have := lv_neT t1_4 (a := 4) (by decide); omega) (by decide) ?_
  refine mf_iload_n 2 dX12_isLeaf_127 rfl ?_
  refine mf_iconst (v := 5) dX12_isLeaf_128 rfl ?_
  refine mf_jo1 (pj := 165) (lvj := fun w8 => [(3, .int a3), (4, .int a4)]) (stj := fun w8 => [.int w8]) (fun w8 => ?_) (fun J165 hJ165 => ?_)
  · show MF rI (yX12_isLeaf.cls, cX12_isLeaf, 6, (some .boolean), yX12_isLeaf.name, d + 2, 0, 0) 165 [(3, .int a3), (4, .int a4)] [.int w8] q _
    refine mf_istore [(5, .int w8), (3, .int a3), (4, .int a4)] dX12_isLeaf_165 (Nat.le_of_ble_eq_true rfl) rfl ?_
    refine mf_iload_n 1 dX12_isLeaf_167 rfl ?_
    refine mf_bipush (v := 60) dX12_isLeaf_168 (by decide) ?_
    refine mf_icmp_ne (tgt := 188) dX12_isLeaf_170 (by decide) ?_ ?_
    · refine mf_iload_n 1 dX12_isLeaf_188 rfl ?_
      refine mf_bipush (v := 61) dX12_isLeaf_189 (by decide) ?_
      refine mf_icmp_ne (tgt := 209) dX12_isLeaf_191 (by decide) ?_ ?_
      · refine mf_iload 0 dX12_isLeaf_209 rfl ?_
        refine mf_iload 2 dX12_isLeaf_211 rfl ?_
        refine mf_icmp_le (tgt := 220) dX12_isLeaf_213 (by decide) ?_ ?_
        · refine mf_iconst (v := 0) dX12_isLeaf_220 rfl ?_
          exact mf_ireturn dX12_isLeaf_221 rfl rfl ⟨rfl, rfl⟩
        · refine mf_iconst (v := 1) dX12_isLeaf_216 rfl ?_
          refine mf_goto (tgt := 221) dX12_isLeaf_217 (by decide) ?_
          exact mf_ireturn dX12_isLeaf_221 rfl rfl ⟨rfl, rfl⟩
      · refine mf_iload 0 dX12_isLeaf_194 rfl ?_
        refine mf_iload 2 dX12_isLeaf_196 rfl ?_
        refine mf_icmp_ne (tgt := 205) dX12_isLeaf_198 (by decide) ?_ ?_
        · refine mf_iconst (v := 0) dX12_isLeaf_205 rfl ?_
          refine mf_goto (tgt := 221) dX12_isLeaf_206 (by decide) ?_
          exact mf_ireturn dX12_isLeaf_221 rfl rfl ⟨rfl, rfl⟩
        · refine mf_iconst (v := 1) dX12_isLeaf_201 rfl ?_
          refine mf_goto (tgt := 221) dX12_isLeaf_202 (by decide) ?_
          exact mf_ireturn dX12_isLeaf_221 rfl rfl ⟨rfl, rfl⟩
    · refine mf_iload 0 dX12_isLeaf_173 rfl ?_
      refine mf_iload 2 dX12_isLeaf_175 rfl ?_
      refine mf_icmp_ge (tgt := 184) dX12_isLeaf_177 (by decide) ?_ ?_
      · refine mf_iconst (v := 0) dX12_isLeaf_184 rfl ?_
        refine mf_goto (tgt := 221) dX12_isLeaf_185 (by decide) ?_
        exact mf_ireturn dX12_isLeaf_221 rfl rfl ⟨rfl, rfl⟩
      · refine mf_iconst (v := 1) dX12_isLeaf_180 rfl ?_
        refine mf_goto (tgt := 221) dX12_isLeaf_181 (by decide) ?_
        exact mf_ireturn dX12_isLeaf_221 rfl rfl ⟨rfl, rfl⟩
  refine mf_icmp_ne (tgt := 145) dX12_isLeaf_129 (by decide) ?_ ?_
  · refine mf_iload_n 2 dX12_isLeaf_145 rfl ?_
    refine mf_bipush (v := 6) dX12_isLeaf_146 (by decide) ?_
    refine mf_icmp_ne (tgt := 164) dX12_isLeaf_148 (by decide) ?_ ?_
    · refine mf_iload_n 1 dX12_isLeaf_164 rfl ?_
      refine mf_sub [3, 4] rfl ?_
      exact hJ165 _
    · refine mf_aload_n 0 dX12_isLeaf_151 rfl ?_
      refine mf_getr 12 6 dX12_isLeaf_152 fl_X12_33 (by decide) (by decide) rfl (mo_o hM) (mo_r6 hM) (by decide) ?_
      refine mf_sipush (v := 283) dX12_isLeaf_155 (by decide) ?_
      refine mf_iload_n 1 dX12_isLeaf_158 rfl ?_
      refine mf_iadd dX12_isLeaf_159 ?_
      refine mf_iald dX12_isLeaf_160 (mo_a6 hM) (fun v9 => ?_)
      refine mf_goto (tgt := 165) dX12_isLeaf_161 (by decide) ?_
      refine mf_sub [3, 4] rfl ?_
      exact hJ165 _
  · refine mf_aload_n 0 dX12_isLeaf_132 rfl ?_
    refine mf_getr 12 6 dX12_isLeaf_133 fl_X12_33 (by decide) (by decide) rfl (mo_o hM) (mo_r6 hM) (by decide) ?_
    refine mf_sipush (v := 276) dX12_isLeaf_136 (by decide) ?_
    refine mf_iload_n 1 dX12_isLeaf_139 rfl ?_
    refine mf_iadd dX12_isLeaf_140 ?_
    refine mf_iald dX12_isLeaf_141 (mo_a6 hM) (fun v10 => ?_)
    refine mf_goto (tgt := 165) dX12_isLeaf_142 (by decide) ?_
    refine mf_sub [3, 4] rfl ?_
    exact hJ165 _
set_option maxRecDepth 100000 in
set_option maxHeartbeats 4000000 in
theorem aX12_isSaid (d : Nat) (q : m_S) (hM : isM q) (a1 : Int32) : AC rI yX12_isSaid cX12_isSaid 5 (some .boolean) (d + 3) [.ref 218, .int a1] q (fX12_isSaid a1) := by
  refine ac_of (by decide +kernel) (Nat.le_of_ble_eq_true rfl) ?_
  unfold fX12_isSaid
  show MF rI (yX12_isSaid.cls, cX12_isSaid, 5, (some .boolean), yX12_isSaid.name, d + 3, 0, 0) 0 [(0, .ref 218), (1, .int a1)] [] q _
  refine mf_iconst (v := 0) dX12_isSaid_0 rfl ?_
  refine mf_istore_n [(2, .int 0), (0, .ref 218), (1, .int a1)] dX12_isSaid_1 (Nat.le_of_ble_eq_true rfl) rfl ?_
  refine mf_iconst (v := 0) dX12_isSaid_2 rfl ?_
  refine mf_istore_n [(3, .int 0), (2, .int 0), (0, .ref 218), (1, .int a1)] dX12_isSaid_3 (Nat.le_of_ble_eq_true rfl) rfl ?_
  refine mf_sub [2, 3, 1, 0] rfl ?_
  refine mf_lz2 (lv := fun x1 x2 => [(0, .ref 218), (1, .int a1), (2, .int x1), (3, .int x2)]) (fun L4 h4 x1 x2 => ?_) _ _ _
  show MF rI (yX12_isSaid.cls, cX12_isSaid, 5, (some .boolean), yX12_isSaid.name, d + 3, 0, 0) 4 [(0, .ref 218), (1, .int a1), (2, .int x1), (3, .int x2)] [] q _
  refine mf_iload_n 3 dX12_isSaid_4 rfl ?_
  refine mf_aload_n 0 dX12_isSaid_5 rfl ?_
  refine mf_getr 12 6 dX12_isSaid_6 fl_X12_33 (by decide) (by decide) rfl (mo_o hM) (mo_r6 hM) (by decide) ?_
  refine mf_sipush (v := 288) dX12_isSaid_9 (by decide) ?_
  refine mf_iald dX12_isSaid_12 (mo_a6 hM) (fun v3 => ?_)
  refine mf_icmp_ge (tgt := 212) dX12_isSaid_13 (by decide) ?_ ?_
  · refine mf_aload_n 0 dX12_isSaid_212 rfl ?_
    refine mf_getr 12 47 dX12_isSaid_213 fl_X12_89 (by decide) (by decide) rfl (mo_o hM) (mo_r47 hM) (by decide) ?_
    refine mf_iconst (v := 0) dX12_isSaid_216 rfl ?_
    refine mf_zald dX12_isSaid_217 (mo_a47 hM) (fun v4 => ?_)
    exact mf_zreturn dX12_isSaid_218 rfl ⟨rfl, rfl⟩
  · refine mf_sipush (v := 289) dX12_isSaid_16 (by decide) ?_
    refine mf_iconst (v := 3) dX12_isSaid_19 rfl ?_
    refine mf_iload_n 3 dX12_isSaid_20 rfl ?_
    refine mf_imul dX12_isSaid_21 ?_
    refine mf_iadd dX12_isSaid_22 ?_
    refine mf_istore [(4, .int (289 + (3 * x2))), (0, .ref 218), (1, .int a1), (2, .int x1), (3, .int x2)] dX12_isSaid_23 (Nat.le_of_ble_eq_true rfl) rfl ?_
    refine mf_aload_n 1 dX12_isSaid_25 rfl ?_
    refine mf_getr 12 6 dX12_isSaid_26 fl_X12_33 (by decide) (by decide) rfl (mo_o hM) (mo_r6 hM) (by decide) ?_
    refine mf_iload 0 dX12_isSaid_29 rfl ?_
    refine mf_iald dX12_isSaid_31 (mo_a6 hM) (fun v5 => ?_)
    refine mf_bipush (v := 20) dX12_isSaid_32 (by decide) ?_
    refine mf_icmp_ne (tgt := 64) dX12_isSaid_34 (by decide) ?_ ?_
    · refine mf_aload_n 1 dX12_isSaid_64 rfl ?_
      refine mf_getr 12 6 dX12_isSaid_65 fl_X12_33 (by decide) (by decide) rfl (mo_o hM) (mo_r6 hM) (by decide) ?_
      refine mf_iload 0 dX12_isSaid_68 rfl ?_
      refine mf_iald dX12_isSaid_70 (mo_a6 hM) (fun v6 => ?_)
      refine mf_bipush (v := 21) dX12_isSaid_71 (by decide) ?_
      refine mf_jo0 (pj := 88) (lvj := [(0, .ref 218), (1, .int a1), (2, .int x1), (3, .int x2), (4, .int (289 + (3 * x2)))]) (stj := []) ?_ (fun J88 hJ88 => ?_)
      · show MF rI (yX12_isSaid.cls, cX12_isSaid, 5, (some .boolean), yX12_isSaid.name, d + 3, 0, 0) 88 [(0, .ref 218), (1, .int a1), (2, .int x1), (3, .int x2), (4, .int (289 + (3 * x2)))] [] q _
        refine mf_iinc 2 (x1 + (-1)) [(2, .int (x1 + (-1))), (0, .ref 218), (1, .int a1), (3, .int x2), (4, .int (289 + (3 * x2)))] dX12_isSaid_88 rfl rfl (Nat.le_of_ble_eq_true rfl) rfl ?_
        refine mf_aload_n 1 dX12_isSaid_91 rfl ?_
        refine mf_getr 12 47 dX12_isSaid_92 fl_X12_89 (by decide) (by decide) rfl (mo_o hM) (mo_r47 hM) (by decide) ?_
        refine mf_iload_n 0 dX12_isSaid_95 rfl ?_
        refine mf_iconst (v := 1) dX12_isSaid_96 rfl ?_
        refine mf_isub dX12_isSaid_97 ?_
        refine mf_aload_n 1 dX12_isSaid_98 rfl ?_
        refine mf_getr 12 6 dX12_isSaid_99 fl_X12_33 (by decide) (by decide) rfl (mo_o hM) (mo_r6 hM) (by decide) ?_
        refine mf_iload 4 dX12_isSaid_102 rfl ?_
        refine mf_iald dX12_isSaid_104 (mo_a6 hM) (fun v7 => ?_)
        refine mf_bipush (v := 21) dX12_isSaid_105 (by decide) ?_
        refine mf_icmp_ne (tgt := 138) dX12_isSaid_107 (by decide) ?_ ?_
        · refine mf_aload_n 1 dX12_isSaid_138 rfl ?_
          refine mf_getr 12 47 dX12_isSaid_139 fl_X12_89 (by decide) (by decide) rfl (mo_o hM) (mo_r47 hM) (by decide) ?_
          refine mf_iload_n 0 dX12_isSaid_142 rfl ?_
          refine mf_iconst (v := 1) dX12_isSaid_143 rfl ?_
          refine mf_isub dX12_isSaid_144 ?_
          refine mf_zald dX12_isSaid_145 (mo_a47 hM) (fun v8 => ?_)
          refine mf_if_ne (tgt := 158) dX12_isSaid_146 (by decide) ?_ ?_
          · refine mf_iconst (v := 1) dX12_isSaid_158 rfl ?_
            refine mf_goto (tgt := 163) dX12_isSaid_159 (by decide) ?_
            refine mf_zast dX12_isSaid_163 (mo_a47 hM) ?_
            refine mf_goto (tgt := 206) dX12_isSaid_164 (by decide) ?_
            refine mf_iinc 3 (x2 + 1) [(3, .int (x2 + 1)), (2, .int (x1 + (-1))), (0, .ref 218), (1, .int a1), (4, .int (289 + (3 * x2)))] dX12_isSaid_206 rfl rfl (Nat.le_of_ble_eq_true rfl) rfl ?_
            refine mf_goto (tgt := 4) dX12_isSaid_209 (by decide) ?_
            refine mf_sub [2, 3, 1, 0] rfl ?_
            exact h4 _ _
          · refine mf_aload_n 1 dX12_isSaid_149 rfl ?_
            refine mf_getr 12 47 dX12_isSaid_150 fl_X12_89 (by decide) (by decide) rfl (mo_o hM) (mo_r47 hM) (by decide) ?_
            refine mf_iload_n 0 dX12_isSaid_153 rfl ?_
            refine mf_zald dX12_isSaid_154 (mo_a47 hM) (fun v9 => ?_)
            refine mf_if_eq (tgt := 162) dX12_isSaid_155 (by decide) ?_ ?_
            · refine mf_iconst (v := 0) dX12_isSaid_162 rfl ?_
              refine mf_zast dX12_isSaid_163 (mo_a47 hM) ?_
              refine mf_goto (tgt := 206) dX12_isSaid_164 (by decide) ?_
              refine mf_iinc 3 (x2 + 1) [(3, .int (x2 + 1)), (2, .int (x1 + (-1))), (0, .ref 218), (1, .int a1), (4, .int (289 + (3 * x2)))] dX12_isSaid_206 rfl rfl (Nat.le_of_ble_eq_true rfl) rfl ?_
              refine mf_goto (tgt := 4) dX12_isSaid_209 (by decide) ?_
              refine mf_sub [2, 3, 1, 0] rfl ?_
              exact h4 _ _
            · refine mf_iconst (v := 1) dX12_isSaid_158 rfl ?_
              refine mf_goto (tgt := 163) dX12_isSaid_159 (by decide) ?_
              refine mf_zast dX12_isSaid_163 (mo_a47 hM) ?_
              refine mf_goto (tgt := 206) dX12_isSaid_164 (by decide) ?_
              refine mf_iinc 3 (x2 + 1) [(3, .int (x2 + 1)), (2, .int (x1 + (-1))), (0, .ref 218), (1, .int a1), (4, .int (289 + (3 * x2)))] dX12_isSaid_206 rfl rfl (Nat.le_of_ble_eq_true rfl) rfl ?_
              refine mf_goto (tgt := 4) dX12_isSaid_209 (by decide) ?_
              refine mf_sub [2, 3, 1, 0] rfl ?_
              exact h4 _ _
        · refine mf_aload_n 1 dX12_isSaid_110 rfl ?_
          refine mf_getr 12 47 dX12_isSaid_111 fl_X12_89 (by decide) (by decide) rfl (mo_o hM) (mo_r47 hM) (by decide) ?_
          refine mf_iload_n 0 dX12_isSaid_114 rfl ?_
          refine mf_iconst (v := 1) dX12_isSaid_115 rfl ?_
          refine mf_isub dX12_isSaid_116 ?_
          refine mf_zald dX12_isSaid_117 (mo_a47 hM) (fun v10 => ?_)
          refine mf_if_eq (tgt := 134) dX12_isSaid_118 (by decide) ?_ ?_
          · refine mf_iconst (v := 0) dX12_isSaid_134 rfl ?_
            refine mf_goto (tgt := 163) dX12_isSaid_135 (by decide) ?_
            refine mf_zast dX12_isSaid_163 (mo_a47 hM) ?_
            refine mf_goto (tgt := 206) dX12_isSaid_164 (by decide) ?_
            refine mf_iinc 3 (x2 + 1) [(3, .int (x2 + 1)), (2, .int (x1 + (-1))), (0, .ref 218), (1, .int a1), (4, .int (289 + (3 * x2)))] dX12_isSaid_206 rfl rfl (Nat.le_of_ble_eq_true rfl) rfl ?_
            refine mf_goto (tgt := 4) dX12_isSaid_209 (by decide) ?_
            refine mf_sub [2, 3, 1, 0] rfl ?_
            exact h4 _ _
          · refine mf_aload_n 1 dX12_isSaid_121 rfl ?_
            refine mf_getr 12 47 dX12_isSaid_122 fl_X12_89 (by decide) (by decide) rfl (mo_o hM) (mo_r47 hM) (by decide) ?_
            refine mf_iload_n 0 dX12_isSaid_125 rfl ?_
            refine mf_zald dX12_isSaid_126 (mo_a47 hM) (fun v11 => ?_)
            refine mf_if_eq (tgt := 134) dX12_isSaid_127 (by decide) ?_ ?_
            · refine mf_iconst (v := 0) dX12_isSaid_134 rfl ?_
              refine mf_goto (tgt := 163) dX12_isSaid_135 (by decide) ?_
              refine mf_zast dX12_isSaid_163 (mo_a47 hM) ?_
              refine mf_goto (tgt := 206) dX12_isSaid_164 (by decide) ?_
              refine mf_iinc 3 (x2 + 1) [(3, .int (x2 + 1)), (2, .int (x1 + (-1))), (0, .ref 218), (1, .int a1), (4, .int (289 + (3 * x2)))] dX12_isSaid_206 rfl rfl (Nat.le_of_ble_eq_true rfl) rfl ?_
              refine mf_goto (tgt := 4) dX12_isSaid_209 (by decide) ?_
              refine mf_sub [2, 3, 1, 0] rfl ?_
              exact h4 _ _
            · refine mf_iconst (v := 1) dX12_isSaid_130 rfl ?_
              refine mf_goto (tgt := 163) dX12_isSaid_131 (by decide) ?_
              refine mf_zast dX12_isSaid_163 (mo_a47 hM) ?_
              refine mf_goto (tgt := 206) dX12_isSaid_164 (by decide) ?_
              refine mf_iinc 3 (x2 + 1) [(3, .int (x2 + 1)), (2, .int (x1 + (-1))), (0, .ref 218), (1, .int a1), (4, .int (289 + (3 * x2)))] dX12_isSaid_206 rfl rfl (Nat.le_of_ble_eq_true rfl) rfl ?_
              refine mf_goto (tgt := 4) dX12_isSaid_209 (by decide) ?_
              refine mf_sub [2, 3, 1, 0] rfl ?_
              exact h4 _ _
      refine mf_icmp_eq (tgt := 88) dX12_isSaid_73 (by decide) ?_ ?_
      · refine mf_sub [1, 2, 3, 4, 0] rfl ?_
        exact hJ88
      · refine mf_aload_n 1 dX12_isSaid_76 rfl ?_
        refine mf_getr 12 6 dX12_isSaid_77 fl_X12_33 (by decide) (by decide) rfl (mo_o hM) (mo_r6 hM) (by decide) ?_
        refine mf_iload 0 dX12_isSaid_80 rfl ?_
        refine mf_iald dX12_isSaid_82 (mo_a6 hM) (fun v12 => ?_)
        refine mf_bipush (v := 22) dX12_isSaid_83 (by decide) ?_
        refine mf_icmp_ne (tgt := 167) dX12_isSaid_85 (by decide) ?_ ?_
        · refine mf_aload_n 1 dX12_isSaid_167 rfl ?_
          refine mf_getr 12 47 dX12_isSaid_168 fl_X12_89 (by decide) (by decide) rfl (mo_o hM) (mo_r47 hM) (by decide) ?_
          refine mf_iload_n 3 dX12_isSaid_171 rfl ?_
          refine mf_aload_n 1 dX12_isSaid_172 rfl ?_
          refine mf_iload_n 2 dX12_isSaid_173 rfl ?_
          refine mf_aload_n 1 dX12_isSaid_174 rfl ?_
          refine mf_getr 12 6 dX12_isSaid_175 fl_X12_33 (by decide) (by decide) rfl (mo_o hM) (mo_r6 hM) (by decide) ?_
          refine mf_iload 0 dX12_isSaid_178 rfl ?_
          refine mf_iald dX12_isSaid_180 (mo_a6 hM) (fun v13 => ?_)
          refine mf_aload_n 1 dX12_isSaid_181 rfl ?_
          refine mf_getr 12 6 dX12_isSaid_182 fl_X12_33 (by decide) (by decide) rfl (mo_o hM) (mo_r6 hM) (by decide) ?_
          refine mf_iload 0 dX12_isSaid_185 rfl ?_
          refine mf_iconst (v := 1) dX12_isSaid_187 rfl ?_
          refine mf_iadd dX12_isSaid_188 ?_
          refine mf_iald dX12_isSaid_189 (mo_a6 hM) (fun v14 => ?_)
          refine mf_aload_n 1 dX12_isSaid_190 rfl ?_
          refine mf_getr 12 6 dX12_isSaid_191 fl_X12_33 (by decide) (by decide) rfl (mo_o hM) (mo_r6 hM) (by decide) ?_
          refine mf_iload 0 dX12_isSaid_194 rfl ?_
          refine mf_iconst (v := 2) dX12_isSaid_196 rfl ?_
          refine mf_iadd dX12_isSaid_197 ?_
          refine mf_iald dX12_isSaid_198 (mo_a6 hM) (fun v15 => ?_)
          refine mf_cVi (rest := [.int x1, .ref 235]) [.int a1, .int v13, .int v14, .int v15] (aX12_isLeaf (d + 0) q hM a1 v13 v14 v15) mY_X12_isLeaf dX12_isSaid_199 ml_X12_526 (mo_o hM) rfl rfl (Nat.le_of_ble_eq_true rfl) rfl (fun v16 => ?_)
          refine mf_zast dX12_isSaid_202 (mo_a47 hM) ?_
          refine mf_iinc 3 (x1 + 1) [(2, .int (x1 + 1)), (4, .int (289 + (3 * x2))), (0, .ref 218), (1, .int a1), (3, .int x2)] dX12_isSaid_203 rfl rfl (Nat.le_of_ble_eq_true rfl) rfl ?_
          refine mf_iinc 4 (x2 + 1) [(3, .int (x2 + 1)), (2, .int (x1 + 1)), (4, .int (289 + (3 * x2))), (0, .ref 218), (1, .int a1)] dX12_isSaid_206 rfl rfl (Nat.le_of_ble_eq_true rfl) rfl ?_
          refine mf_goto (tgt := 4) dX12_isSaid_209 (by decide) ?_
          refine mf_sub [3, 4, 1, 0] rfl ?_
          exact h4 _ _
        · refine mf_sub [1, 2, 3, 4, 0] rfl ?_
          exact hJ88
    · refine mf_aload_n 1 dX12_isSaid_37 rfl ?_
      refine mf_getr 12 47 dX12_isSaid_38 fl_X12_89 (by decide) (by decide) rfl (mo_o hM) (mo_r47 hM) (by decide) ?_
      refine mf_iload_n 3 dX12_isSaid_41 rfl ?_
      refine mf_iconst (v := 1) dX12_isSaid_42 rfl ?_
      refine mf_isub dX12_isSaid_43 ?_
      refine mf_aload_n 1 dX12_isSaid_44 rfl ?_
      refine mf_getr 12 47 dX12_isSaid_45 fl_X12_89 (by decide) (by decide) rfl (mo_o hM) (mo_r47 hM) (by decide) ?_
      refine mf_iload_n 3 dX12_isSaid_48 rfl ?_
      refine mf_iconst (v := 1) dX12_isSaid_49 rfl ?_
      refine mf_isub dX12_isSaid_50 ?_
      refine mf_zald dX12_isSaid_51 (mo_a47 hM) (fun v17 => ?_)
      refine mf_if_ne (tgt := 59) dX12_isSaid_52 (by decide) ?_ ?_
      · refine mf_iconst (v := 0) dX12_isSaid_59 rfl ?_
        refine mf_zast dX12_isSaid_60 (mo_a47 hM) ?_
        refine mf_goto (tgt := 206) dX12_isSaid_61 (by decide) ?_
        refine mf_iinc 4 (x2 + 1) [(3, .int (x2 + 1)), (4, .int (289 + (3 * x2))), (0, .ref 218), (1, .int a1), (2, .int x1)] dX12_isSaid_206 rfl rfl (Nat.le_of_ble_eq_true rfl) rfl ?_
        refine mf_goto (tgt := 4) dX12_isSaid_209 (by decide) ?_
        refine mf_sub [2, 3, 4, 0] rfl ?_
        exact h4 _ _
      · refine mf_iconst (v := 1) dX12_isSaid_55 rfl ?_
        refine mf_goto (tgt := 60) dX12_isSaid_56 (by decide) ?_
        refine mf_zast dX12_isSaid_60 (mo_a47 hM) ?_
        refine mf_goto (tgt := 206) dX12_isSaid_61 (by decide) ?_
        refine mf_iinc 4 (x2 + 1) [(3, .int (x2 + 1)), (4, .int (289 + (3 * x2))), (0, .ref 218), (1, .int a1), (2, .int x1)] dX12_isSaid_206 rfl rfl (Nat.le_of_ble_eq_true rfl) rfl ?_
        refine mf_goto (tgt := 4) dX12_isSaid_209 (by decide) ?_
        refine mf_sub [2, 3, 4, 0] rfl ?_
        exact h4 _ _
set_option maxRecDepth 100000 in
set_option maxHeartbeats 4000000 in
theorem aX12_said (d : Nat) (q : m_S) (hM : isM q) (a1 : Int32) : AC rI yX12_said cX12_said 4 (some .int) (d + 4) [.ref 218, .int a1] q (fX12_said a1) := by
  refine ac_of (by decide +kernel) (Nat.le_of_ble_eq_true rfl) ?_
  unfold fX12_said
  show MF rI (yX12_said.cls, cX12_said, 4, (some .int), yX12_said.name, d + 4, 0, 0) 0 [(0, .ref 218), (1, .int a1)] [] q _
  refine mf_aload_n 0 dX12_said_0 rfl ?_
  refine mf_iconst (v := 0) dX12_said_1 rfl ?_
  refine mf_puti 12 0 dX12_said_2 fl_X12_1 (by decide) (by decide) rfl rfl (mo_o hM) ?_
  refine mf_aload_n 0 dX12_said_5 rfl ?_
  refine mf_getr 12 6 dX12_said_6 fl_X12_33 (by decide) (by decide) rfl (mo_o hM) (mo_r6 hM) (by decide) ?_
  refine mf_sipush (v := 288) dX12_said_9 (by decide) ?_
  refine mf_iald dX12_said_12 (mo_a6 hM) (fun v1 => ?_)
  refine mf_if_eq (tgt := 21) dX12_said_13 (by decide) ?_ ?_
  · refine mf_iconst (v := -1) dX12_said_21 rfl ?_
    exact mf_ireturn dX12_said_22 rfl rfl ⟨rfl, rfl⟩
  · refine mf_iload_n 1 dX12_said_16 rfl ?_
    refine mf_iconst (v := -1) dX12_said_17 rfl ?_
    refine mf_icmp_ge (tgt := 23) dX12_said_18 (by decide) ?_ ?_
    · refine mf_iconst (v := 0) dX12_said_23 rfl ?_
      refine mf_istore_n [(2, .int 0), (0, .ref 218), (1, .int a1)] dX12_said_24 (Nat.le_of_ble_eq_true rfl) rfl ?_
      refine mf_iconst (v := 0) dX12_said_25 rfl ?_
      refine mf_istore_n [(3, .int 0), (2, .int 0), (0, .ref 218), (1, .int a1)] dX12_said_26 (Nat.le_of_ble_eq_true rfl) rfl ?_
      refine mf_sub [2, 3, 1, 0] rfl ?_
      refine mf_lz2 (lv := fun x2 x3 => [(0, .ref 218), (1, .int a1), (2, .int x2), (3, .int x3)]) (fun L27 h27 x2 x3 => ?_) _ _ _
      show MF rI (yX12_said.cls, cX12_said, 4, (some .int), yX12_said.name, d + 4, 0, 0) 27 [(0, .ref 218), (1, .int a1), (2, .int x2), (3, .int x3)] [] q _
      refine mf_iload_n 3 dX12_said_27 rfl ?_
      refine mf_aload_n 0 dX12_said_28 rfl ?_
      refine mf_getr 12 6 dX12_said_29 fl_X12_33 (by decide) (by decide) rfl (mo_o hM) (mo_r6 hM) (by decide) ?_
      refine mf_bipush (v := 6) dX12_said_32 (by decide) ?_
      refine mf_iald dX12_said_34 (mo_a6 hM) (fun v4 => ?_)
      refine mf_icmp_ge (tgt := 65) dX12_said_35 (by decide) ?_ ?_
      · refine mf_iload_n 1 dX12_said_65 rfl ?_
        refine mf_iconst (v := -1) dX12_said_66 rfl ?_
        refine mf_icmp_ne (tgt := 74) dX12_said_67 (by decide) ?_ ?_
        · refine mf_iconst (v := -1) dX12_said_74 rfl ?_
          exact mf_ireturn dX12_said_75 rfl rfl ⟨rfl, rfl⟩
        · refine mf_iload_n 2 dX12_said_70 rfl ?_
          refine mf_goto (tgt := 75) dX12_said_71 (by decide) ?_
          exact mf_ireturn dX12_said_75 rfl rfl ⟨rfl, rfl⟩
      · refine mf_aload_n 0 dX12_said_38 rfl ?_
        refine mf_iload_n 3 dX12_said_39 rfl ?_
        refine mf_cVi (rest := []) [.int x3] (aX12_isSaid (d + 0) q hM x3) mY_X12_isSaid dX12_said_40 ml_X12_530 (mo_o hM) rfl rfl (Nat.le_of_ble_eq_true rfl) rfl (fun v5 => ?_)
        refine mf_if_ne (tgt := 49) dX12_said_43 (by decide) ?_ ?_
        · refine mf_iload_n 2 dX12_said_49 rfl ?_
          refine mf_iload_n 1 dX12_said_50 rfl ?_
          refine mf_icmp_ne (tgt := 56) dX12_said_51 (by decide) ?_ ?_
          · refine mf_iinc 2 (x2 + 1) [(2, .int (x2 + 1)), (0, .ref 218), (1, .int a1), (3, .int x3)] dX12_said_56 rfl rfl (Nat.le_of_ble_eq_true rfl) rfl ?_
            refine mf_iinc 3 (x3 + 1) [(3, .int (x3 + 1)), (2, .int (x2 + 1)), (0, .ref 218), (1, .int a1)] dX12_said_59 rfl rfl (Nat.le_of_ble_eq_true rfl) rfl ?_
            refine mf_goto (tgt := 27) dX12_said_62 (by decide) ?_
            refine mf_sub [2, 3, 1, 0] rfl ?_
            exact h27 _ _
          · refine mf_iload_n 3 dX12_said_54 rfl ?_
            exact mf_ireturn dX12_said_55 rfl rfl ⟨rfl, rfl⟩
        · refine mf_goto (tgt := 59) dX12_said_46 (by decide) ?_
          refine mf_iinc 3 (x3 + 1) [(3, .int (x3 + 1)), (0, .ref 218), (1, .int a1), (2, .int x2)] dX12_said_59 rfl rfl (Nat.le_of_ble_eq_true rfl) rfl ?_
          refine mf_goto (tgt := 27) dX12_said_62 (by decide) ?_
          refine mf_sub [1, 2, 3, 0] rfl ?_
          exact h27 _ _
    · refine mf_iconst (v := -1) dX12_said_21 rfl ?_
      exact mf_ireturn dX12_said_22 rfl rfl ⟨rfl, rfl⟩
set_option maxRecDepth 100000 in
set_option maxHeartbeats 4000000 in
theorem aX12_image (d : Nat) (q : m_S) (hM : isM q) (a1 : Int32) : AC rI yX12_image cX12_image 3 (some .boolean) (d + 2) [.ref 218, .int a1] q (fX12_image a1) := by
  refine ac_of (by decide +kernel) (Nat.le_of_ble_eq_true rfl) ?_
  unfold fX12_image
  show MF rI (yX12_image.cls, cX12_image, 3, (some .boolean), yX12_image.name, d + 2, 0, 0) 0 [(0, .ref 218), (1, .int a1)] [] q _
  refine mf_aload_n 0 dX12_image_0 rfl ?_
  refine mf_iconst (v := 0) dX12_image_1 rfl ?_
  refine mf_puti 12 0 dX12_image_2 fl_X12_1 (by decide) (by decide) rfl rfl (mo_o hM) ?_
  refine mf_iload_n 1 dX12_image_5 rfl ?_
  refine mf_iconst (v := 0) dX12_image_6 rfl ?_
  refine mf_iconst (v := 1) dX12_image_7 rfl ?_
  refine mf_cSi (rest := []) [.int a1, .int 0, .int 1] (aX12_isIn (d + 0) q a1 0 1) mY_X12_isIn dX12_image_8 ml_X12_211 rfl rfl (Nat.le_of_ble_eq_true rfl) rfl (fun v1 => ?_)
  refine mf_if_ne (tgt := 16) dX12_image_11 (by decide) ?_ ?_
  · refine mf_iconst (v := 0) dX12_image_16 rfl ?_
    refine mf_istore_n [(2, .int 0), (0, .ref 218), (1, .int a1)] dX12_image_17 (Nat.le_of_ble_eq_true rfl) rfl ?_
    refine mf_sub [1, 2, 0] rfl ?_
    refine mf_lz1 (lv := fun x2 => [(0, .ref 218), (1, .int a1), (2, .int x2)]) (fun L18 h18 x2 => ?_) _ _
    show MF rI (yX12_image.cls, cX12_image, 3, (some .boolean), yX12_image.name, d + 2, 0, 0) 18 [(0, .ref 218), (1, .int a1), (2, .int x2)] [] q _
    refine mf_iload_n 2 dX12_image_18 rfl ?_
    refine mf_sipush (v := 469) dX12_image_19 (by decide) ?_
    refine mf_icmp_ge (tgt := 49) dX12_image_22 (by decide) ?_ ?_
    · refine mf_iconst (v := 0) dX12_image_49 rfl ?_
      refine mf_istore_n [(2, .int 0), (0, .ref 218), (1, .int a1)] dX12_image_50 (Nat.le_of_ble_eq_true rfl) rfl ?_
      refine mf_sub [1, 2, 0] rfl ?_
      refine mf_lz1 (lv := fun x3 => [(0, .ref 218), (1, .int a1), (2, .int x3)]) (fun L51 h51 x3 => ?_) _ _
      show MF rI (yX12_image.cls, cX12_image, 3, (some .boolean), yX12_image.name, d + 2, 0, 0) 51 [(0, .ref 218), (1, .int a1), (2, .int x3)] [] q _
      refine mf_iload_n 2 dX12_image_51 rfl ?_
      refine mf_bipush (v := 41) dX12_image_52 (by decide) ?_
      refine mf_icmp_ge (tgt := 80) dX12_image_54 (by decide) ?_ ?_
      · refine mf_aload_n 0 dX12_image_80 rfl ?_
        refine mf_getr 12 50 dX12_image_81 fl_X12_99 (by decide) (by decide) rfl (mo_o hM) (mo_r50 hM) (by decide) ?_
        refine mf_iload_n 1 dX12_image_84 rfl ?_
        refine mf_iconst (v := 1) dX12_image_85 rfl ?_
        refine mf_zast dX12_image_86 (mo_a50 hM) ?_
        refine mf_iconst (v := 1) dX12_image_87 rfl ?_
        exact mf_ireturn dX12_image_88 rfl rfl ⟨rfl, rfl⟩
      · refine mf_aload_n 0 dX12_image_57 rfl ?_
        refine mf_getr 12 49 dX12_image_58 fl_X12_96 (by decide) (by decide) rfl (mo_o hM) (mo_r49 hM) (by decide) ?_
        refine mf_bipush (v := 41) dX12_image_61 (by decide) ?_
        refine mf_iload_n 1 dX12_image_63 rfl ?_
        refine mf_imul dX12_image_64 ?_
        refine mf_iload_n 2 dX12_image_65 rfl ?_
        refine mf_iadd dX12_image_66 ?_
        refine mf_aload_n 0 dX12_image_67 rfl ?_
        refine mf_getr 12 9 dX12_image_68 fl_X12_43 (by decide) (by decide) rfl (mo_o hM) (mo_r9 hM) (by decide) ?_
        refine mf_iload_n 2 dX12_image_71 rfl ?_
        refine mf_lald dX12_image_72 (mo_a9 hM) (fun v4 => ?_)
        refine mf_last dX12_image_73 (mo_a49 hM) ?_
        refine mf_iinc 2 (x3 + 1) [(2, .int (x3 + 1)), (0, .ref 218), (1, .int a1)] dX12_image_74 rfl rfl (Nat.le_of_ble_eq_true rfl) rfl ?_
        refine mf_goto (tgt := 51) dX12_image_77 (by decide) ?_
        refine mf_sub [1, 2, 0] rfl ?_
        exact h51 _
    · refine mf_aload_n 0 dX12_image_25 rfl ?_
      refine mf_getr 12 48 dX12_image_26 fl_X12_93 (by decide) (by decide) rfl (mo_o hM) (mo_r48 hM) (by decide) ?_
      refine mf_sipush (v := 469) dX12_image_29 (by decide) ?_
      refine mf_iload_n 1 dX12_image_32 rfl ?_
      refine mf_imul dX12_image_33 ?_
      refine mf_iload_n 2 dX12_image_34 rfl ?_
      refine mf_iadd dX12_image_35 ?_
      refine mf_aload_n 0 dX12_image_36 rfl ?_
      refine mf_getr 12 6 dX12_image_37 fl_X12_33 (by decide) (by decide) rfl (mo_o hM) (mo_r6 hM) (by decide) ?_
      refine mf_iload_n 2 dX12_image_40 rfl ?_
      refine mf_iald dX12_image_41 (mo_a6 hM) (fun v5 => ?_)
      refine mf_iast dX12_image_42 (mo_a48 hM) ?_
      refine mf_iinc 2 (x2 + 1) [(2, .int (x2 + 1)), (0, .ref 218), (1, .int a1)] dX12_image_43 rfl rfl (Nat.le_of_ble_eq_true rfl) rfl ?_
      refine mf_goto (tgt := 18) dX12_image_46 (by decide) ?_
      refine mf_sub [1, 2, 0] rfl ?_
      exact h18 _
  · refine mf_iconst (v := 0) dX12_image_14 rfl ?_
    exact mf_ireturn dX12_image_15 rfl rfl ⟨rfl, rfl⟩
set_option maxRecDepth 100000 in
set_option maxHeartbeats 4000000 in
theorem aX12_restore (d : Nat) (q : m_S) (hM : isM q) (a1 : Int32) : AC rI yX12_restore cX12_restore 3 (some .boolean) (d + 2) [.ref 218, .int a1] q (fX12_restore a1) := by
  refine ac_of (by decide +kernel) (Nat.le_of_ble_eq_true rfl) ?_
  unfold fX12_restore
  show MF rI (yX12_restore.cls, cX12_restore, 3, (some .boolean), yX12_restore.name, d + 2, 0, 0) 0 [(0, .ref 218), (1, .int a1)] [] q _
  refine mf_aload_n 0 dX12_restore_0 rfl ?_
  refine mf_iconst (v := 0) dX12_restore_1 rfl ?_
  refine mf_puti 12 0 dX12_restore_2 fl_X12_1 (by decide) (by decide) rfl rfl (mo_o hM) ?_
  refine mf_iload_n 1 dX12_restore_5 rfl ?_
  refine mf_iconst (v := 0) dX12_restore_6 rfl ?_
  refine mf_iconst (v := 1) dX12_restore_7 rfl ?_
  refine mf_cSi (rest := []) [.int a1, .int 0, .int 1] (aX12_isIn (d + 0) q a1 0 1) mY_X12_isIn dX12_restore_8 ml_X12_211 rfl rfl (Nat.le_of_ble_eq_true rfl) rfl (fun v1 => ?_)
  refine mf_if_eq (tgt := 23) dX12_restore_11 (by decide) ?_ ?_
  · refine mf_iconst (v := 0) dX12_restore_23 rfl ?_
    exact mf_ireturn dX12_restore_24 rfl rfl ⟨rfl, rfl⟩
  · refine mf_aload_n 0 dX12_restore_14 rfl ?_
    refine mf_getr 12 50 dX12_restore_15 fl_X12_99 (by decide) (by decide) rfl (mo_o hM) (mo_r50 hM) (by decide) ?_
    refine mf_iload_n 1 dX12_restore_18 rfl ?_
    refine mf_zald dX12_restore_19 (mo_a50 hM) (fun v2 => ?_)
    refine mf_if_ne (tgt := 25) dX12_restore_20 (by decide) ?_ ?_
    · refine mf_iconst (v := 0) dX12_restore_25 rfl ?_
      refine mf_istore_n [(2, .int 0), (0, .ref 218), (1, .int a1)] dX12_restore_26 (Nat.le_of_ble_eq_true rfl) rfl ?_
      refine mf_sub [1, 2, 0] rfl ?_
      refine mf_lz1 (lv := fun x3 => [(0, .ref 218), (1, .int a1), (2, .int x3)]) (fun L27 h27 x3 => ?_) _ _
      show MF rI (yX12_restore.cls, cX12_restore, 3, (some .boolean), yX12_restore.name, d + 2, 0, 0) 27 [(0, .ref 218), (1, .int a1), (2, .int x3)] [] q _
      refine mf_iload_n 2 dX12_restore_27 rfl ?_
      refine mf_sipush (v := 469) dX12_restore_28 (by decide) ?_
      refine mf_icmp_ge (tgt := 58) dX12_restore_31 (by decide) ?_ ?_
      · refine mf_iconst (v := 0) dX12_restore_58 rfl ?_
        refine mf_istore_n [(2, .int 0), (0, .ref 218), (1, .int a1)] dX12_restore_59 (Nat.le_of_ble_eq_true rfl) rfl ?_
        refine mf_sub [1, 2, 0] rfl ?_
        refine mf_lz1 (lv := fun x4 => [(0, .ref 218), (1, .int a1), (2, .int x4)]) (fun L60 h60 x4 => ?_) _ _
        show MF rI (yX12_restore.cls, cX12_restore, 3, (some .boolean), yX12_restore.name, d + 2, 0, 0) 60 [(0, .ref 218), (1, .int a1), (2, .int x4)] [] q _
        refine mf_iload_n 2 dX12_restore_60 rfl ?_
        refine mf_bipush (v := 41) dX12_restore_61 (by decide) ?_
        refine mf_icmp_ge (tgt := 89) dX12_restore_63 (by decide) ?_ ?_
        · refine mf_aload_n 0 dX12_restore_89 rfl ?_
          refine mf_iconst (v := 0) dX12_restore_90 rfl ?_
          refine mf_puti 12 23 dX12_restore_91 fl_X12_295 (by decide) (by decide) rfl rfl (mo_o hM) ?_
          refine mf_iconst (v := 1) dX12_restore_94 rfl ?_
          exact mf_ireturn dX12_restore_95 rfl rfl ⟨rfl, rfl⟩
        · refine mf_aload_n 0 dX12_restore_66 rfl ?_
          refine mf_getr 12 9 dX12_restore_67 fl_X12_43 (by decide) (by decide) rfl (mo_o hM) (mo_r9 hM) (by decide) ?_
          refine mf_iload_n 2 dX12_restore_70 rfl ?_
          refine mf_aload_n 0 dX12_restore_71 rfl ?_
          refine mf_getr 12 49 dX12_restore_72 fl_X12_96 (by decide) (by decide) rfl (mo_o hM) (mo_r49 hM) (by decide) ?_
          refine mf_bipush (v := 41) dX12_restore_75 (by decide) ?_
          refine mf_iload_n 1 dX12_restore_77 rfl ?_
          refine mf_imul dX12_restore_78 ?_
          refine mf_iload_n 2 dX12_restore_79 rfl ?_
          refine mf_iadd dX12_restore_80 ?_
          refine mf_lald dX12_restore_81 (mo_a49 hM) (fun v5 => ?_)
          refine mf_last dX12_restore_82 (mo_a9 hM) ?_
          refine mf_iinc 2 (x4 + 1) [(2, .int (x4 + 1)), (0, .ref 218), (1, .int a1)] dX12_restore_83 rfl rfl (Nat.le_of_ble_eq_true rfl) rfl ?_
          refine mf_goto (tgt := 60) dX12_restore_86 (by decide) ?_
          refine mf_sub [1, 2, 0] rfl ?_
          exact h60 _
      · refine mf_aload_n 0 dX12_restore_34 rfl ?_
        refine mf_getr 12 6 dX12_restore_35 fl_X12_33 (by decide) (by decide) rfl (mo_o hM) (mo_r6 hM) (by decide) ?_
        refine mf_iload_n 2 dX12_restore_38 rfl ?_
        refine mf_aload_n 0 dX12_restore_39 rfl ?_
        refine mf_getr 12 48 dX12_restore_40 fl_X12_93 (by decide) (by decide) rfl (mo_o hM) (mo_r48 hM) (by decide) ?_
        refine mf_sipush (v := 469) dX12_restore_43 (by decide) ?_
        refine mf_iload_n 1 dX12_restore_46 rfl ?_
        refine mf_imul dX12_restore_47 ?_
        refine mf_iload_n 2 dX12_restore_48 rfl ?_
        refine mf_iadd dX12_restore_49 ?_
        refine mf_iald dX12_restore_50 (mo_a48 hM) (fun v6 => ?_)
        refine mf_iast dX12_restore_51 (mo_a6 hM) ?_
        refine mf_iinc 2 (x3 + 1) [(2, .int (x3 + 1)), (0, .ref 218), (1, .int a1)] dX12_restore_52 rfl rfl (Nat.le_of_ble_eq_true rfl) rfl ?_
        refine mf_goto (tgt := 27) dX12_restore_55 (by decide) ?_
        refine mf_sub [1, 2, 0] rfl ?_
        exact h27 _
    · refine mf_iconst (v := 0) dX12_restore_23 rfl ?_
      exact mf_ireturn dX12_restore_24 rfl rfl ⟨rfl, rfl⟩
set_option maxRecDepth 100000 in
set_option maxHeartbeats 4000000 in
theorem aX12_count (d : Nat) (q : m_S) (hM : isM q) (a1 : Int32) : AC rI yX12_count cX12_count 2 (some .int) (d + 2) [.ref 218, .int a1] q (fX12_count a1) := by
  refine ac_of (by decide +kernel) (Nat.le_of_ble_eq_true rfl) ?_
  unfold fX12_count
  show MF rI (yX12_count.cls, cX12_count, 2, (some .int), yX12_count.name, d + 2, 0, 0) 0 [(0, .ref 218), (1, .int a1)] [] q _
  refine mf_aload_n 0 dX12_count_0 rfl ?_
  refine mf_iconst (v := 0) dX12_count_1 rfl ?_
  refine mf_puti 12 0 dX12_count_2 fl_X12_1 (by decide) (by decide) rfl rfl (mo_o hM) ?_
  refine mf_iload_n 1 dX12_count_5 rfl ?_
  refine mf_bipush (v := 8) dX12_count_6 (by decide) ?_
  refine mf_icmp_ne (tgt := 18) dX12_count_8 (by decide) ?_ ?_
  · refine mf_iload_n 1 dX12_count_18 rfl ?_
    refine mf_iconst (v := 0) dX12_count_19 rfl ?_
    refine mf_bipush (v := 7) dX12_count_20 (by decide) ?_
    refine mf_cSi (rest := []) [.int a1, .int 0, .int 7] (aX12_isIn (d + 0) q a1 0 7) mY_X12_isIn dX12_count_22 ml_X12_211 rfl rfl (Nat.le_of_ble_eq_true rfl) rfl (fun v1 => ?_)
    refine mf_if_eq (tgt := 37) dX12_count_25 (by decide) ?_ ?_
    · refine mf_iconst (v := -1) dX12_count_37 rfl ?_
      exact mf_ireturn dX12_count_38 rfl rfl ⟨rfl, rfl⟩
    · refine mf_aload_n 0 dX12_count_28 rfl ?_
      refine mf_getr 12 6 dX12_count_29 fl_X12_33 (by decide) (by decide) rfl (mo_o hM) (mo_r6 hM) (by decide) ?_
      refine mf_iload_n 1 dX12_count_32 rfl ?_
      refine mf_iald dX12_count_33 (mo_a6 hM) (fun v2 => ?_)
      refine mf_goto (tgt := 38) dX12_count_34 (by decide) ?_
      exact mf_ireturn dX12_count_38 rfl rfl ⟨rfl, rfl⟩
  · refine mf_aload_n 0 dX12_count_11 rfl ?_
    refine mf_geti 12 2 dX12_count_12 fl_X12_7 (by decide) (by decide) rfl (mo_o hM) (fun v3 => ?_)
    refine mf_goto (tgt := 38) dX12_count_15 (by decide) ?_
    exact mf_ireturn dX12_count_38 rfl rfl ⟨rfl, rfl⟩
