set_option maxRecDepth 100000 in
set_option maxHeartbeats 4000000 in
theorem aX6_canGoOver (d : Nat) (q : m_S) (hq : isW q) (a1 : Int32) (a2 : Int32) : AC rI yX6_canGoOver cX6_canGoOver 8 (some .boolean) (d + 3) [.ref 25, .int a1, .int a2] q (fX6_canGoOver a1 a2) := by
  refine ac_of (by decide +kernel) (Nat.le_of_ble_eq_true rfl) ?_
  unfold fX6_canGoOver
  show MF rI (yX6_canGoOver.cls, cX6_canGoOver, 8, (some .boolean), yX6_canGoOver.name, d + 3, 0, 0) 0 [(0, .ref 25), (1, .int a1), (2, .int a2)] [] q _
  refine mf_aload_n 0 dX6_canGoOver_0 rfl ?_
  refine mf_getr 6 0 dX6_canGoOver_1 fl_X6_12 (by decide) (by decide) rfl (rd_o (w_rd hq)) (rd_r0 (w_rd hq)) (by decide) ?_
  refine mf_getr 5 10 dX6_canGoOver_4 fl_X6_165 (by decide) (by decide) rfl (pl_o (w_pl hq pl26)) (pl_r10 (w_pl hq pl26)) (by decide) ?_
  refine mf_iload_n 1 dX6_canGoOver_7 rfl ?_
  refine mf_iald dX6_canGoOver_8 (pl_a10 (w_pl hq pl26)) (fun v1 => ?_)
  refine mf_istore_n [(3, .int v1), (0, .ref 25), (1, .int a1), (2, .int a2)] dX6_canGoOver_9 (Nat.le_of_ble_eq_true rfl) rfl ?_
  refine mf_aload_n 1 dX6_canGoOver_10 rfl ?_
  refine mf_getr 6 0 dX6_canGoOver_11 fl_X6_12 (by decide) (by decide) rfl (rd_o (w_rd hq)) (rd_r0 (w_rd hq)) (by decide) ?_
  refine mf_iload_n 2 dX6_canGoOver_14 rfl ?_
  refine mf_cVi (rest := []) [.int a1] (aX5_endOf (d + 0) q hq 26 a1 pl26) mY_X5_endOf dX6_canGoOver_15 ml_X6_191 (pl_o (w_pl hq pl26)) rfl rfl (Nat.le_of_ble_eq_true rfl) rfl (fun v2 => ?_)
  refine mf_istore [(4, .int v2), (3, .int v1), (0, .ref 25), (1, .int a1), (2, .int a2)] dX6_canGoOver_18 (Nat.le_of_ble_eq_true rfl) rfl ?_
  refine mf_aload_n 2 dX6_canGoOver_20 rfl ?_
  refine mf_getr 6 0 dX6_canGoOver_21 fl_X6_12 (by decide) (by decide) rfl (rd_o (w_rd hq)) (rd_r0 (w_rd hq)) (by decide) ?_
  refine mf_iload 0 dX6_canGoOver_24 rfl ?_
  refine mf_iload_n 4 dX6_canGoOver_26 rfl ?_
  refine mf_cVi (rest := []) [.int v2, .int a2] (aX5_trackBetween (d + 1) q hq 26 v2 a2 pl26) mY_X5_trackBetween dX6_canGoOver_27 ml_X6_123 (pl_o (w_pl hq pl26)) rfl rfl (Nat.le_of_ble_eq_true rfl) rfl (fun v3 => ?_)
  refine mf_istore [(5, .int v3), (4, .int v2), (3, .int v1), (0, .ref 25), (1, .int a1), (2, .int a2)] dX6_canGoOver_30 (Nat.le_of_ble_eq_true rfl) rfl ?_
  refine mf_iload 0 dX6_canGoOver_32 rfl ?_
  refine mf_iconst (v := -1) dX6_canGoOver_34 rfl ?_
  refine mf_icmp_eq (tgt := 62) dX6_canGoOver_35 (by decide) ?_ ?_
  · refine mf_iconst (v := 0) dX6_canGoOver_62 rfl ?_
    exact mf_ireturn dX6_canGoOver_63 rfl rfl ⟨rfl, rfl⟩
  · refine mf_aload_n 3 dX6_canGoOver_38 rfl ?_
    refine mf_getr 6 0 dX6_canGoOver_39 fl_X6_12 (by decide) (by decide) rfl (rd_o (w_rd hq)) (rd_r0 (w_rd hq)) (by decide) ?_
    refine mf_iload 0 dX6_canGoOver_42 rfl ?_
    refine mf_iload 1 dX6_canGoOver_44 rfl ?_
    refine mf_aload_n 3 dX6_canGoOver_46 rfl ?_
    refine mf_getr 6 0 dX6_canGoOver_47 fl_X6_12 (by decide) (by decide) rfl (rd_o (w_rd hq)) (rd_r0 (w_rd hq)) (by decide) ?_
    refine mf_getr 5 9 dX6_canGoOver_50 fl_X6_162 (by decide) (by decide) rfl (pl_o (w_pl hq pl26)) (pl_r9 (w_pl hq pl26)) (by decide) ?_
    refine mf_iload_n 2 dX6_canGoOver_53 rfl ?_
    refine mf_iald dX6_canGoOver_54 (pl_a9 (w_pl hq pl26)) (fun v4 => ?_)
    refine mf_cVi (rest := []) [.int v3, .int v2, .int v4] (aX5_leadsTo (d + 1) q hq 26 v3 v2 v4 pl26) mY_X5_leadsTo dX6_canGoOver_55 ml_X6_194 (pl_o (w_pl hq pl26)) rfl rfl (Nat.le_of_ble_eq_true rfl) rfl (fun v5 => ?_)
    refine mf_iload_n 5 dX6_canGoOver_58 rfl ?_
    refine mf_icmp_eq (tgt := 64) dX6_canGoOver_59 (by decide) ?_ ?_
    · refine mf_aload_n 3 dX6_canGoOver_64 rfl ?_
      refine mf_getr 6 0 dX6_canGoOver_65 fl_X6_12 (by decide) (by decide) rfl (rd_o (w_rd hq)) (rd_r0 (w_rd hq)) (by decide) ?_
      refine mf_getr 5 13 dX6_canGoOver_68 fl_X6_171 (by decide) (by decide) rfl (pl_o (w_pl hq pl26)) (pl_r13 (w_pl hq pl26)) (by decide) ?_
      refine mf_iload_n 4 dX6_canGoOver_71 rfl ?_
      refine mf_iald dX6_canGoOver_72 (pl_a13 (w_pl hq pl26)) (fun v6 => ?_)
      refine mf_iload_n 5 dX6_canGoOver_73 rfl ?_
      refine mf_ishr dX6_canGoOver_74 ?_
      refine mf_iconst (v := 1) dX6_canGoOver_75 rfl ?_
      refine mf_iand dX6_canGoOver_76 ?_
      refine mf_iconst (v := 1) dX6_canGoOver_77 rfl ?_
      refine mf_icmp_eq (tgt := 94) dX6_canGoOver_78 (by decide) ?_ ?_
      · refine mf_iconst (v := 0) dX6_canGoOver_94 rfl ?_
        exact mf_ireturn dX6_canGoOver_95 rfl rfl ⟨rfl, rfl⟩
      · refine mf_aload_n 3 dX6_canGoOver_81 rfl ?_
        refine mf_getr 6 0 dX6_canGoOver_82 fl_X6_12 (by decide) (by decide) rfl (rd_o (w_rd hq)) (rd_r0 (w_rd hq)) (by decide) ?_
        refine mf_getr 5 8 dX6_canGoOver_85 fl_X6_159 (by decide) (by decide) rfl (pl_o (w_pl hq pl26)) (pl_r8 (w_pl hq pl26)) (by decide) ?_
        refine mf_iload_n 2 dX6_canGoOver_88 rfl ?_
        refine mf_iald dX6_canGoOver_89 (pl_a8 (w_pl hq pl26)) (fun v7 => ?_)
        refine mf_iload_n 5 dX6_canGoOver_90 rfl ?_
        refine mf_icmp_ne (tgt := 96) dX6_canGoOver_91 (by decide) ?_ ?_
        · refine mf_aload_n 3 dX6_canGoOver_96 rfl ?_
          refine mf_getr 6 0 dX6_canGoOver_97 fl_X6_12 (by decide) (by decide) rfl (rd_o (w_rd hq)) (rd_r0 (w_rd hq)) (by decide) ?_
          refine mf_getr 5 6 dX6_canGoOver_100 fl_X6_150 (by decide) (by decide) rfl (pl_o (w_pl hq pl26)) (pl_r6 (w_pl hq pl26)) (by decide) ?_
          refine mf_iload 0 dX6_canGoOver_103 rfl ?_
          refine mf_iald dX6_canGoOver_105 (pl_a6 (w_pl hq pl26)) (fun v8 => ?_)
          refine mf_istore [(6, .int v8), (5, .int v3), (4, .int v2), (3, .int v1), (0, .ref 25), (1, .int a1), (2, .int a2)] dX6_canGoOver_106 (Nat.le_of_ble_eq_true rfl) rfl ?_
          refine mf_aload_n 4 dX6_canGoOver_108 rfl ?_
          refine mf_getr 6 0 dX6_canGoOver_109 fl_X6_12 (by decide) (by decide) rfl (rd_o (w_rd hq)) (rd_r0 (w_rd hq)) (by decide) ?_
          refine mf_getr 5 7 dX6_canGoOver_112 fl_X6_153 (by decide) (by decide) rfl (pl_o (w_pl hq pl26)) (pl_r7 (w_pl hq pl26)) (by decide) ?_
          refine mf_iload 1 dX6_canGoOver_115 rfl ?_
          refine mf_iald dX6_canGoOver_117 (pl_a7 (w_pl hq pl26)) (fun v9 => ?_)
          refine mf_jo1 (pj := 142) (lvj := fun w10 => [(6, .int v8)]) (stj := fun w10 => [.int w10]) (fun w10 => ?_) (fun J142 hJ142 => ?_)
          · show MF rI (yX6_canGoOver.cls, cX6_canGoOver, 8, (some .boolean), yX6_canGoOver.name, d + 3, 0, 0) 142 [(6, .int v8)] [.int w10] q _
            refine mf_istore [(7, .int w10), (6, .int v8)] dX6_canGoOver_142 (Nat.le_of_ble_eq_true rfl) rfl ?_
            refine mf_iload 1 dX6_canGoOver_144 rfl ?_
            refine mf_iconst (v := -1) dX6_canGoOver_146 rfl ?_
            refine mf_icmp_eq (tgt := 160) dX6_canGoOver_147 (by decide) ?_ ?_
            · refine mf_iconst (v := 1) dX6_canGoOver_160 rfl ?_
              refine mf_goto (tgt := 165) dX6_canGoOver_161 (by decide) ?_
              exact mf_ireturn dX6_canGoOver_165 rfl rfl ⟨rfl, rfl⟩
            · refine mf_iload 0 dX6_canGoOver_150 rfl ?_
              refine mf_iload 1 dX6_canGoOver_152 rfl ?_
              refine mf_ishr dX6_canGoOver_154 ?_
              refine mf_iconst (v := 1) dX6_canGoOver_155 rfl ?_
              refine mf_iand dX6_canGoOver_156 ?_
              refine mf_if_ne (tgt := 164) dX6_canGoOver_157 (by decide) ?_ ?_
              · refine mf_iconst (v := 0) dX6_canGoOver_164 rfl ?_
                exact mf_ireturn dX6_canGoOver_165 rfl rfl ⟨rfl, rfl⟩
              · refine mf_iconst (v := 1) dX6_canGoOver_160 rfl ?_
                refine mf_goto (tgt := 165) dX6_canGoOver_161 (by decide) ?_
                exact mf_ireturn dX6_canGoOver_165 rfl rfl ⟨rfl, rfl⟩
          refine mf_if_ne (tgt := 133) dX6_canGoOver_118 (by decide) ?_ ?_
          · refine mf_aload_n 4 dX6_canGoOver_133 rfl ?_
            refine mf_getr 6 0 dX6_canGoOver_134 fl_X6_12 (by decide) (by decide) rfl (rd_o (w_rd hq)) (rd_r0 (w_rd hq)) (by decide) ?_
            refine mf_getr 5 14 dX6_canGoOver_137 fl_X6_174 (by decide) (by decide) rfl (pl_o (w_pl hq pl26)) (pl_r14 (w_pl hq pl26)) (by decide) ?_
            refine mf_iload_n 5 dX6_canGoOver_140 rfl ?_
            refine mf_iald dX6_canGoOver_141 (pl_a14 (w_pl hq pl26)) (fun v11 => ?_)
            refine mf_sub [0] rfl ?_
            exact hJ142 _
          · refine mf_aload_n 4 dX6_canGoOver_121 rfl ?_
            refine mf_getr 6 0 dX6_canGoOver_122 fl_X6_12 (by decide) (by decide) rfl (rd_o (w_rd hq)) (rd_r0 (w_rd hq)) (by decide) ?_
            refine mf_getr 5 15 dX6_canGoOver_125 fl_X6_177 (by decide) (by decide) rfl (pl_o (w_pl hq pl26)) (pl_r15 (w_pl hq pl26)) (by decide) ?_
            refine mf_iload_n 5 dX6_canGoOver_128 rfl ?_
            refine mf_iald dX6_canGoOver_129 (pl_a15 (w_pl hq pl26)) (fun v12 => ?_)
            refine mf_goto (tgt := 142) dX6_canGoOver_130 (by decide) ?_
            refine mf_sub [0] rfl ?_
            exact hJ142 _
        · refine mf_iconst (v := 0) dX6_canGoOver_94 rfl ?_
          exact mf_ireturn dX6_canGoOver_95 rfl rfl ⟨rfl, rfl⟩
    · refine mf_iconst (v := 0) dX6_canGoOver_62 rfl ?_
      exact mf_ireturn dX6_canGoOver_63 rfl rfl ⟨rfl, rfl⟩
set_option maxRecDepth 100000 in
set_option maxHeartbeats 4000000 in
theorem aX6_addOver (d : Nat) (q : m_S) (hq : isW q) (a1 : Int32) (a2 : Int32) : AC rU yX6_addOver cX6_addOver 5 none (d + 3) [.ref 25, .int a1, .int a2] q (fX6_addOver a1 a2) := by
  refine ac_of (by decide +kernel) (Nat.le_of_ble_eq_true rfl) ?_
  unfold fX6_addOver
  show MF rU (yX6_addOver.cls, cX6_addOver, 5, none, yX6_addOver.name, d + 3, 0, 0) 0 [(0, .ref 25), (1, .int a1), (2, .int a2)] [] q _
  refine mf_aload_n 0 dX6_addOver_0 rfl ?_
  refine mf_getr 6 0 dX6_addOver_1 fl_X6_12 (by decide) (by decide) rfl (rd_o (w_rd hq)) (rd_r0 (w_rd hq)) (by decide) ?_
  refine mf_aload_n 0 dX6_addOver_4 rfl ?_
  refine mf_getr 6 0 dX6_addOver_5 fl_X6_12 (by decide) (by decide) rfl (rd_o (w_rd hq)) (rd_r0 (w_rd hq)) (by decide) ?_
  refine mf_iload_n 1 dX6_addOver_8 rfl ?_
  refine mf_cVi (rest := [.ref 26]) [.int a1] (aX5_endOf (d + 0) q hq 26 a1 pl26) mY_X5_endOf dX6_addOver_9 ml_X6_191 (pl_o (w_pl hq pl26)) rfl rfl (Nat.le_of_ble_eq_true rfl) rfl (fun v1 => ?_)
  refine mf_iload_n 2 dX6_addOver_12 rfl ?_
  refine mf_cVi (rest := []) [.int v1, .int a2] (aX5_trackBetween (d + 1) q hq 26 v1 a2 pl26) mY_X5_trackBetween dX6_addOver_13 ml_X6_123 (pl_o (w_pl hq pl26)) rfl rfl (Nat.le_of_ble_eq_true rfl) rfl (fun v2 => ?_)
  refine mf_istore_n [(3, .int v2), (0, .ref 25), (1, .int a1), (2, .int a2)] dX6_addOver_16 (Nat.le_of_ble_eq_true rfl) rfl ?_
  refine mf_iload_n 0 dX6_addOver_17 rfl ?_
  refine mf_iconst (v := -1) dX6_addOver_18 rfl ?_
  refine mf_jo1 (pj := 35) (lvj := fun w3 => [(0, .ref 25), (1, .int a1), (2, .int a2), (3, .int v2)]) (stj := fun w3 => [.int w3]) (fun w3 => ?_) (fun J35 hJ35 => ?_)
  · show MF rU (yX6_addOver.cls, cX6_addOver, 5, none, yX6_addOver.name, d + 3, 0, 0) 35 [(0, .ref 25), (1, .int a1), (2, .int a2), (3, .int v2)] [.int w3] q _
    refine mf_istore [(4, .int w3), (0, .ref 25), (1, .int a1), (2, .int a2), (3, .int v2)] dX6_addOver_35 (Nat.le_of_ble_eq_true rfl) rfl ?_
    refine mf_iload 0 dX6_addOver_37 rfl ?_
    refine mf_iconst (v := -1) dX6_addOver_39 rfl ?_
    refine mf_jo0 (pj := 90) (lvj := [(0, .ref 25), (1, .int a1), (2, .int a2)]) (stj := []) ?_ (fun J90 hJ90 => ?_)
    · show MF rU (yX6_addOver.cls, cX6_addOver, 5, none, yX6_addOver.name, d + 3, 0, 0) 90 [(0, .ref 25), (1, .int a1), (2, .int a2)] [] q _
      refine mf_aload_n 0 dX6_addOver_90 rfl ?_
      refine mf_getr 6 0 dX6_addOver_91 fl_X6_12 (by decide) (by decide) rfl (rd_o (w_rd hq)) (rd_r0 (w_rd hq)) (by decide) ?_
      refine mf_getr 5 12 dX6_addOver_94 fl_X6_198 (by decide) (by decide) rfl (pl_o (w_pl hq pl26)) (pl_r12 (w_pl hq pl26)) (by decide) ?_
      refine mf_iload_n 1 dX6_addOver_97 rfl ?_
      refine mf_bipush (v := 6) dX6_addOver_98 (by decide) ?_
      refine mf_imul dX6_addOver_100 ?_
      refine mf_aload_n 0 dX6_addOver_101 rfl ?_
      refine mf_getr 6 0 dX6_addOver_102 fl_X6_12 (by decide) (by decide) rfl (rd_o (w_rd hq)) (rd_r0 (w_rd hq)) (by decide) ?_
      refine mf_getr 5 11 dX6_addOver_105 fl_X6_168 (by decide) (by decide) rfl (pl_o (w_pl hq pl26)) (pl_r11 (w_pl hq pl26)) (by decide) ?_
      refine mf_iload_n 1 dX6_addOver_108 rfl ?_
      refine mf_iald dX6_addOver_109 (pl_a11 (w_pl hq pl26)) (fun v4 => ?_)
      refine mf_iadd dX6_addOver_110 ?_
      refine mf_iload_n 2 dX6_addOver_111 rfl ?_
      refine mf_iast dX6_addOver_112 (pl_a12 (w_pl hq pl26)) ?_
      refine mf_aload_n 0 dX6_addOver_113 rfl ?_
      refine mf_getr 6 0 dX6_addOver_114 fl_X6_12 (by decide) (by decide) rfl (rd_o (w_rd hq)) (rd_r0 (w_rd hq)) (by decide) ?_
      refine mf_getr 5 11 dX6_addOver_117 fl_X6_168 (by decide) (by decide) rfl (pl_o (w_pl hq pl26)) (pl_r11 (w_pl hq pl26)) (by decide) ?_
      refine mf_iload_n 1 dX6_addOver_120 rfl ?_
      refine mf_dup2 dX6_addOver_121 rfl rfl ?_
      refine mf_iald dX6_addOver_122 (pl_a11 (w_pl hq pl26)) (fun v5 => ?_)
      refine mf_iconst (v := 1) dX6_addOver_123 rfl ?_
      refine mf_iadd dX6_addOver_124 ?_
      refine mf_iast dX6_addOver_125 (pl_a11 (w_pl hq pl26)) ?_
      refine mf_aload_n 0 dX6_addOver_126 rfl ?_
      refine mf_getr 6 0 dX6_addOver_127 fl_X6_12 (by decide) (by decide) rfl (rd_o (w_rd hq)) (rd_r0 (w_rd hq)) (by decide) ?_
      refine mf_getr 5 13 dX6_addOver_130 fl_X6_171 (by decide) (by decide) rfl (pl_o (w_pl hq pl26)) (pl_r13 (w_pl hq pl26)) (by decide) ?_
      refine mf_iload_n 1 dX6_addOver_133 rfl ?_
      refine mf_dup2 dX6_addOver_134 rfl rfl ?_
      refine mf_iald dX6_addOver_135 (pl_a13 (w_pl hq pl26)) (fun v6 => ?_)
      refine mf_iconst (v := 1) dX6_addOver_136 rfl ?_
      refine mf_iload_n 2 dX6_addOver_137 rfl ?_
      refine mf_ishl dX6_addOver_138 ?_
      refine mf_ior dX6_addOver_139 ?_
      refine mf_iast dX6_addOver_140 (pl_a13 (w_pl hq pl26)) ?_
      exact mf_return dX6_addOver_141 rfl ⟨rfl, rfl⟩
    refine mf_icmp_eq (tgt := 90) dX6_addOver_40 (by decide) ?_ ?_
    · refine mf_sub [1, 2, 3] rfl ?_
      exact hJ90
    · refine mf_aload_n 1 dX6_addOver_43 rfl ?_
      refine mf_getr 6 0 dX6_addOver_44 fl_X6_12 (by decide) (by decide) rfl (rd_o (w_rd hq)) (rd_r0 (w_rd hq)) (by decide) ?_
      refine mf_getr 5 7 dX6_addOver_47 fl_X6_153 (by decide) (by decide) rfl (pl_o (w_pl hq pl26)) (pl_r7 (w_pl hq pl26)) (by decide) ?_
      refine mf_iload_n 4 dX6_addOver_50 rfl ?_
      refine mf_iald dX6_addOver_51 (pl_a7 (w_pl hq pl26)) (fun v7 => ?_)
      refine mf_if_ne (tgt := 74) dX6_addOver_52 (by decide) ?_ ?_
      · refine mf_aload_n 1 dX6_addOver_74 rfl ?_
        refine mf_getr 6 0 dX6_addOver_75 fl_X6_12 (by decide) (by decide) rfl (rd_o (w_rd hq)) (rd_r0 (w_rd hq)) (by decide) ?_
        refine mf_getr 5 15 dX6_addOver_78 fl_X6_177 (by decide) (by decide) rfl (pl_o (w_pl hq pl26)) (pl_r15 (w_pl hq pl26)) (by decide) ?_
        refine mf_iload_n 2 dX6_addOver_81 rfl ?_
        refine mf_dup2 dX6_addOver_82 rfl rfl ?_
        refine mf_iald dX6_addOver_83 (pl_a15 (w_pl hq pl26)) (fun v8 => ?_)
        refine mf_iconst (v := 1) dX6_addOver_84 rfl ?_
        refine mf_iload 0 dX6_addOver_85 rfl ?_
        refine mf_ishl dX6_addOver_87 ?_
        refine mf_ior dX6_addOver_88 ?_
        refine mf_iast dX6_addOver_89 (pl_a15 (w_pl hq pl26)) ?_
        refine mf_sub [1, 2, 3] rfl ?_
        exact hJ90
      · refine mf_aload_n 1 dX6_addOver_55 rfl ?_
        refine mf_getr 6 0 dX6_addOver_56 fl_X6_12 (by decide) (by decide) rfl (rd_o (w_rd hq)) (rd_r0 (w_rd hq)) (by decide) ?_
        refine mf_getr 5 14 dX6_addOver_59 fl_X6_174 (by decide) (by decide) rfl (pl_o (w_pl hq pl26)) (pl_r14 (w_pl hq pl26)) (by decide) ?_
        refine mf_iload_n 2 dX6_addOver_62 rfl ?_
        refine mf_dup2 dX6_addOver_63 rfl rfl ?_
        refine mf_iald dX6_addOver_64 (pl_a14 (w_pl hq pl26)) (fun v9 => ?_)
        refine mf_iconst (v := 1) dX6_addOver_65 rfl ?_
        refine mf_iload 0 dX6_addOver_66 rfl ?_
        refine mf_ishl dX6_addOver_68 ?_
        refine mf_ior dX6_addOver_69 ?_
        refine mf_iast dX6_addOver_70 (pl_a14 (w_pl hq pl26)) ?_
        refine mf_goto (tgt := 90) dX6_addOver_71 (by decide) ?_
        refine mf_sub [1, 2, 3] rfl ?_
        exact hJ90
  refine mf_icmp_ne (tgt := 26) dX6_addOver_19 (by decide) ?_ ?_
  · refine mf_aload_n 1 dX6_addOver_26 rfl ?_
    refine mf_getr 6 0 dX6_addOver_27 fl_X6_12 (by decide) (by decide) rfl (rd_o (w_rd hq)) (rd_r0 (w_rd hq)) (by decide) ?_
    refine mf_getr 5 6 dX6_addOver_30 fl_X6_150 (by decide) (by decide) rfl (pl_o (w_pl hq pl26)) (pl_r6 (w_pl hq pl26)) (by decide) ?_
    refine mf_iload_n 0 dX6_addOver_33 rfl ?_
    refine mf_iald dX6_addOver_34 (pl_a6 (w_pl hq pl26)) (fun v10 => ?_)
    refine mf_sub [1, 2, 3, 0] rfl ?_
    exact hJ35 _
  · refine mf_iconst (v := -1) dX6_addOver_22 rfl ?_
    refine mf_goto (tgt := 35) dX6_addOver_23 (by decide) ?_
    refine mf_sub [1, 2, 3, 0] rfl ?_
    exact hJ35 _
set_option maxRecDepth 100000 in
set_option maxHeartbeats 4000000 in
theorem aX6_readOver (d : Nat) (q : m_S) (hq : isW q)  : AC rI yX6_readOver cX6_readOver 4 (some .boolean) (d + 5) [.ref 25, .ref 1] q (fX6_readOver ) := by
  refine ac_of (by decide +kernel) (Nat.le_of_ble_eq_true rfl) ?_
  unfold fX6_readOver
  show MF rI (yX6_readOver.cls, cX6_readOver, 4, (some .boolean), yX6_readOver.name, d + 5, 0, 0) 0 [(0, .ref 25), (1, .ref 1)] [] q _
  refine mf_aload_n 1 dX6_readOver_0 rfl ?_
  refine mf_aload_n 0 dX6_readOver_1 rfl ?_
  refine mf_getr 6 0 dX6_readOver_2 fl_X6_12 (by decide) (by decide) rfl (rd_o (w_rd hq)) (rd_r0 (w_rd hq)) (by decide) ?_
  refine mf_iconst (v := 4) dX6_readOver_5 rfl ?_
  refine mf_cVi (rest := []) [.ref 26, .int 4] (aX10_nextNamed (d + 0) q hq 26 4 pl26) mY_X10_nextNamed dX6_readOver_6 ml_X6_116 (tx_o (w_tx hq)) rfl rfl (Nat.le_of_ble_eq_true rfl) rfl (fun v1 => ?_)
  refine mf_istore_n [(2, .int v1), (0, .ref 25), (1, .ref 1)] dX6_readOver_9 (Nat.le_of_ble_eq_true rfl) rfl ?_
  refine mf_iload_n 0 dX6_readOver_10 rfl ?_
  refine mf_iconst (v := -1) dX6_readOver_11 rfl ?_
  refine mf_icmp_ne (tgt := 17) dX6_readOver_12 (by decide) ?_ ?_
  · refine mf_aload_n 1 dX6_readOver_17 rfl ?_
    refine mf_getr 6 0 dX6_readOver_18 fl_X6_12 (by decide) (by decide) rfl (rd_o (w_rd hq)) (rd_r0 (w_rd hq)) (by decide) ?_
    refine mf_getr 5 11 dX6_readOver_21 fl_X6_168 (by decide) (by decide) rfl (pl_o (w_pl hq pl26)) (pl_r11 (w_pl hq pl26)) (by decide) ?_
    refine mf_iload_n 0 dX6_readOver_24 rfl ?_
    refine mf_iald dX6_readOver_25 (pl_a11 (w_pl hq pl26)) (fun v2 => ?_)
    refine mf_bipush (v := 6) dX6_readOver_26 (by decide) ?_
    refine mf_icmp_lt (tgt := 37) dX6_readOver_28 (by decide) ?_ ?_
    · refine mf_aload_n 2 dX6_readOver_37 rfl ?_
      refine mf_aload_n 1 dX6_readOver_38 rfl ?_
      refine mf_getr 6 0 dX6_readOver_39 fl_X6_12 (by decide) (by decide) rfl (rd_o (w_rd hq)) (rd_r0 (w_rd hq)) (by decide) ?_
      refine mf_iconst (v := 0) dX6_readOver_42 rfl ?_
      refine mf_cVi (rest := []) [.ref 26, .int 0] (aX10_nextNamed (d + 0) q hq 26 0 pl26) mY_X10_nextNamed dX6_readOver_43 ml_X6_116 (tx_o (w_tx hq)) rfl rfl (Nat.le_of_ble_eq_true rfl) rfl (fun v3 => ?_)
      refine mf_istore_n [(3, .int v3), (2, .int v1), (0, .ref 25), (1, .ref 1)] dX6_readOver_46 (Nat.le_of_ble_eq_true rfl) rfl ?_
      refine mf_iload_n 0 dX6_readOver_47 rfl ?_
      refine mf_iconst (v := -1) dX6_readOver_48 rfl ?_
      refine mf_icmp_ne (tgt := 54) dX6_readOver_49 (by decide) ?_ ?_
      · refine mf_aload_n 2 dX6_readOver_54 rfl ?_
        refine mf_iload_n 1 dX6_readOver_55 rfl ?_
        refine mf_iload_n 0 dX6_readOver_56 rfl ?_
        refine mf_cVi (rest := []) [.int v1, .int v3] (aX6_canGoOver (d + 1) q hq v1 v3) mY_X6_canGoOver dX6_readOver_57 ml_X6_183 (rd_o (w_rd hq)) rfl rfl (Nat.le_of_ble_eq_true rfl) rfl (fun v4 => ?_)
        refine mf_if_ne (tgt := 69) dX6_readOver_60 (by decide) ?_ ?_
        · refine mf_aload_n 2 dX6_readOver_69 rfl ?_
          refine mf_iload_n 1 dX6_readOver_70 rfl ?_
          refine mf_iload_n 0 dX6_readOver_71 rfl ?_
          refine mf_cVv (rest := []) [.int v1, .int v3] (aX6_addOver (d + 1) q hq v1 v3) mY_X6_addOver dX6_readOver_72 ml_X6_187 (rd_o (w_rd hq)) rfl rfl (Nat.le_of_ble_eq_true rfl) rfl (fun _ => ?_)
          refine mf_aload_n 3 dX6_readOver_75 rfl ?_
          refine mf_cSi (rest := []) [.ref 1] (aX6_goOn (d + 0) q hq) mY_X6_goOn dX6_readOver_76 ml_X6_113 rfl rfl (Nat.le_of_ble_eq_true rfl) rfl (fun v5 => ?_)
          exact mf_zreturn dX6_readOver_79 rfl ⟨rfl, rfl⟩
        · refine mf_aload_n 3 dX6_readOver_63 rfl ?_
          refine mf_iconst (v := 3) dX6_readOver_64 rfl ?_
          refine mf_cVi (rest := []) [.int 3] (aX10_wrong (d + 3) q hq 3) mY_X10_wrong dX6_readOver_65 ml_X6_82 (tx_o (w_tx hq)) rfl rfl (Nat.le_of_ble_eq_true rfl) rfl (fun v6 => ?_)
          exact mf_zreturn dX6_readOver_68 rfl ⟨rfl, rfl⟩
      · refine mf_iconst (v := 0) dX6_readOver_52 rfl ?_
        exact mf_ireturn dX6_readOver_53 rfl rfl ⟨rfl, rfl⟩
    · refine mf_aload_n 2 dX6_readOver_31 rfl ?_
      refine mf_iconst (v := 4) dX6_readOver_32 rfl ?_
      refine mf_cVi (rest := []) [.int 4] (aX10_wrong (d + 3) q hq 4) mY_X10_wrong dX6_readOver_33 ml_X6_82 (tx_o (w_tx hq)) rfl rfl (Nat.le_of_ble_eq_true rfl) rfl (fun v7 => ?_)
      exact mf_zreturn dX6_readOver_36 rfl ⟨rfl, rfl⟩
  · refine mf_iconst (v := 0) dX6_readOver_15 rfl ?_
    exact mf_ireturn dX6_readOver_16 rfl rfl ⟨rfl, rfl⟩
set_option maxRecDepth 100000 in
set_option maxHeartbeats 4000000 in
theorem aX6_readLine (d : Nat) (q : m_S) (hq : isW q)  : AC rI yX6_readLine cX6_readLine 2 (some .boolean) (d + 6) [.ref 25, .ref 1] q (fX6_readLine ) := by
  refine ac_of (by decide +kernel) (Nat.le_of_ble_eq_true rfl) ?_
  unfold fX6_readLine
  show MF rI (yX6_readLine.cls, cX6_readLine, 2, (some .boolean), yX6_readLine.name, d + 6, 0, 0) 0 [(0, .ref 25), (1, .ref 1)] [] q _
  refine mf_aload_n 1 dX6_readLine_0 rfl ?_
  refine mf_geti 10 8 dX6_readLine_1 fl_X6_52 (by decide) (by decide) rfl (tx_o (w_tx hq)) (fun v1 => ?_)
  refine mf_case (v := 0) (tgt := 56) (off := 52) dX6_readLine_4 (by decide) (by decide) (by decide) (by decide) ?_ (fun t4_0 => ?_)
  · refine mf_aload_n 0 dX6_readLine_56 rfl ?_
    refine mf_aload_n 1 dX6_readLine_57 rfl ?_
    refine mf_cVi (rest := []) [.ref 1] (aX6_readSection (d + 0) q hq) mY_X6_readSection dX6_readLine_58 ml_X6_55 (rd_o (w_rd hq)) rfl rfl (Nat.le_of_ble_eq_true rfl) rfl (fun v2 => ?_)
    exact mf_zreturn dX6_readLine_61 rfl ⟨rfl, rfl⟩
  refine mf_case (v := 1) (tgt := 62) (off := 58) dX6_readLine_4 (by decide) (by decide) (by decide) (by decide) ?_ (fun t4_1 => ?_)
  · refine mf_aload_n 0 dX6_readLine_62 rfl ?_
    refine mf_aload_n 1 dX6_readLine_63 rfl ?_
    refine mf_cVi (rest := []) [.ref 1] (aX6_readPoints (d + 0) q hq) mY_X6_readPoints dX6_readLine_64 ml_X6_58 (rd_o (w_rd hq)) rfl rfl (Nat.le_of_ble_eq_true rfl) rfl (fun v3 => ?_)
    exact mf_zreturn dX6_readLine_67 rfl ⟨rfl, rfl⟩
  refine mf_case (v := 2) (tgt := 68) (off := 64) dX6_readLine_4 (by decide) (by decide) (by decide) (by decide) ?_ (fun t4_2 => ?_)
  · refine mf_aload_n 0 dX6_readLine_68 rfl ?_
    refine mf_aload_n 1 dX6_readLine_69 rfl ?_
    refine mf_cVi (rest := []) [.ref 1] (aX6_readTrack (d + 0) q hq) mY_X6_readTrack dX6_readLine_70 ml_X6_61 (rd_o (w_rd hq)) rfl rfl (Nat.le_of_ble_eq_true rfl) rfl (fun v4 => ?_)
    exact mf_zreturn dX6_readLine_73 rfl ⟨rfl, rfl⟩
  refine mf_case (v := 3) (tgt := 74) (off := 70) dX6_readLine_4 (by decide) (by decide) (by decide) (by decide) ?_ (fun t4_3 => ?_)
  · refine mf_aload_n 0 dX6_readLine_74 rfl ?_
    refine mf_aload_n 1 dX6_readLine_75 rfl ?_
    refine mf_cVi (rest := []) [.ref 1] (aX6_readSignal (d + 0) q hq) mY_X6_readSignal dX6_readLine_76 ml_X6_64 (rd_o (w_rd hq)) rfl rfl (Nat.le_of_ble_eq_true rfl) rfl (fun v5 => ?_)
    exact mf_zreturn dX6_readLine_79 rfl ⟨rfl, rfl⟩
  refine mf_case (v := 4) (tgt := 80) (off := 76) dX6_readLine_4 (by decide) (by decide) (by decide) (by decide) ?_ (fun t4_4 => ?_)
  · refine mf_aload_n 0 dX6_readLine_80 rfl ?_
    refine mf_aload_n 1 dX6_readLine_81 rfl ?_
    refine mf_cVi (rest := []) [.ref 1] (aX6_readRoute (d + 0) q hq) mY_X6_readRoute dX6_readLine_82 ml_X6_67 (rd_o (w_rd hq)) rfl rfl (Nat.le_of_ble_eq_true rfl) rfl (fun v6 => ?_)
    exact mf_zreturn dX6_readLine_85 rfl ⟨rfl, rfl⟩
  refine mf_case (v := 5) (tgt := 86) (off := 82) dX6_readLine_4 (by decide) (by decide) (by decide) (by decide) ?_ (fun t4_5 => ?_)
  · refine mf_aload_n 0 dX6_readLine_86 rfl ?_
    refine mf_aload_n 1 dX6_readLine_87 rfl ?_
    refine mf_cVi (rest := []) [.ref 1] (aX6_readLock (d + 0) q hq) mY_X6_readLock dX6_readLine_88 ml_X6_70 (rd_o (w_rd hq)) rfl rfl (Nat.le_of_ble_eq_true rfl) rfl (fun v7 => ?_)
    exact mf_zreturn dX6_readLine_91 rfl ⟨rfl, rfl⟩
  refine mf_case (v := 6) (tgt := 92) (off := 88) dX6_readLine_4 (by decide) (by decide) (by decide) (by decide) ?_ (fun t4_6 => ?_)
  · refine mf_aload_n 0 dX6_readLine_92 rfl ?_
    refine mf_aload_n 1 dX6_readLine_93 rfl ?_
    refine mf_cVi (rest := []) [.ref 1] (aX6_readTrain (d + 0) q hq) mY_X6_readTrain dX6_readLine_94 ml_X6_73 (rd_o (w_rd hq)) rfl rfl (Nat.le_of_ble_eq_true rfl) rfl (fun v8 => ?_)
    exact mf_zreturn dX6_readLine_97 rfl ⟨rfl, rfl⟩
  refine mf_case (v := 7) (tgt := 98) (off := 94) dX6_readLine_4 (by decide) (by decide) (by decide) (by decide) ?_ (fun t4_7 => ?_)
  · refine mf_aload_n 0 dX6_readLine_98 rfl ?_
    refine mf_aload_n 1 dX6_readLine_99 rfl ?_
    refine mf_cVi (rest := []) [.ref 1] (aX6_readHold (d + 0) q hq) mY_X6_readHold dX6_readLine_100 ml_X6_76 (rd_o (w_rd hq)) rfl rfl (Nat.le_of_ble_eq_true rfl) rfl (fun v9 => ?_)
    exact mf_zreturn dX6_readLine_103 rfl ⟨rfl, rfl⟩
  refine mf_case (v := 8) (tgt := 104) (off := 100) dX6_readLine_4 (by decide) (by decide) (by decide) (by decide) ?_ (fun t4_8 => ?_)
  · refine mf_aload_n 0 dX6_readLine_104 rfl ?_
    refine mf_aload_n 1 dX6_readLine_105 rfl ?_
    refine mf_cVi (rest := []) [.ref 1] (aX6_readOver (d + 0) q hq) mY_X6_readOver dX6_readLine_106 ml_X6_79 (rd_o (w_rd hq)) rfl rfl (Nat.le_of_ble_eq_true rfl) rfl (fun v10 => ?_)
    exact mf_zreturn dX6_readLine_109 rfl ⟨rfl, rfl⟩
  refine mf_dflt (tgt := 110) dX6_readLine_4 (by have := lv_neT t4_0 (a := 0) (by decide); have := lv_neT t4_1 (a := 1) (by decide); have := lv_neT t4_2 (a := 2) (by decide); have := lv_neT t4_3 (a := 3) (by decide); have := lv_neT t4_4 (a := 4) (by decide); have := lv_neT t4_5 (a := 5) (by decide); have := lv_neT t4_6 (a := 6) (by decide); have := lv_neT t4_7 (a := 7) (by decide); have := lv_neT t4_8 (a := 8) (by decide); omega) (by decide) ?_
  refine mf_aload_n 1 dX6_readLine_110 rfl ?_
  refine mf_iconst (v := 1) dX6_readLine_111 rfl ?_
  refine mf_cVi (rest := []) [.int 1] (aX10_wrong (d + 4) q hq 1) mY_X10_wrong dX6_readLine_112 ml_X6_82 (tx_o (w_tx hq)) rfl rfl (Nat.le_of_ble_eq_true rfl) rfl (fun v11 => ?_)
  exact mf_zreturn dX6_readLine_115 rfl ⟨rfl, rfl⟩
set_option maxRecDepth 100000 in
set_option maxHeartbeats 4000000 in
theorem aX6_readPlan (d : Nat) (q : m_S) (hq : isW q)  : AC rI yX6_readPlan cX6_readPlan 2 (some .boolean) (d + 7) [.ref 25, .ref 1] q (fX6_readPlan ) := by
  refine ac_of (by decide +kernel) (Nat.le_of_ble_eq_true rfl) ?_
  unfold fX6_readPlan
  show MF rI (yX6_readPlan.cls, cX6_readPlan, 2, (some .boolean), yX6_readPlan.name, d + 7, 0, 0) 0 [(0, .ref 25), (1, .ref 1)] [] q _
  refine mf_aload_n 1 dX6_readPlan_0 rfl ?_
  refine mf_sipush (v := 1400) dX6_readPlan_1 (by decide) ?_
  refine mf_cVv (rest := []) [.int 1400] (aX10_begin (d + 5) q hq 1400) mY_X10_begin dX6_readPlan_4 ml_X6_26 (tx_o (w_tx hq)) rfl rfl (Nat.le_of_ble_eq_true rfl) rfl (fun _ => ?_)
  refine mf_aload_n 0 dX6_readPlan_7 rfl ?_
  refine mf_getr 6 0 dX6_readPlan_8 fl_X6_12 (by decide) (by decide) rfl (rd_o (w_rd hq)) (rd_r0 (w_rd hq)) (by decide) ?_
  refine mf_cVv (rest := []) [] (aX5_empty (d + 4) q hq 26 pl26) mY_X5_empty dX6_readPlan_11 ml_X6_32 (pl_o (w_pl hq pl26)) rfl rfl (Nat.le_of_ble_eq_true rfl) rfl (fun _ => ?_)
  refine mf_aload_n 0 dX6_readPlan_14 rfl ?_
  refine mf_iconst (v := 0) dX6_readPlan_15 rfl ?_
  refine mf_puti 6 1 dX6_readPlan_16 fl_X6_18 (by decide) (by decide) rfl rfl (rd_o (w_rd hq)) ?_
  refine mf_aload_n 0 dX6_readPlan_19 rfl ?_
  refine mf_iconst (v := 0) dX6_readPlan_20 rfl ?_
  refine mf_putzc 6 2 dX6_readPlan_21 fl_X6_22 (by decide) (by decide) rfl rfl (rd_o (w_rd hq)) (by decide) ?_
  refine mf_aload_n 1 dX6_readPlan_24 rfl ?_
  refine mf_cVv (rest := []) [] (aX10_next (d + 3) q hq) mY_X10_next dX6_readPlan_25 ml_X6_35 (tx_o (w_tx hq)) rfl rfl (Nat.le_of_ble_eq_true rfl) rfl (fun _ => ?_)
  refine mf_lz0 (fun L28 h28  => ?_) _
  show MF rI (yX6_readPlan.cls, cX6_readPlan, 2, (some .boolean), yX6_readPlan.name, d + 7, 0, 0) 28 [(0, .ref 25), (1, .ref 1)] [] q _
  refine mf_aload_n 1 dX6_readPlan_28 rfl ?_
  refine mf_geti 10 4 dX6_readPlan_29 fl_X6_38 (by decide) (by decide) rfl (tx_o (w_tx hq)) (fun v1 => ?_)
  refine mf_if_eq (tgt := 81) dX6_readPlan_32 (by decide) ?_ ?_
  · refine mf_aload_n 0 dX6_readPlan_81 rfl ?_
    refine mf_getr 6 0 dX6_readPlan_82 fl_X6_12 (by decide) (by decide) rfl (rd_o (w_rd hq)) (rd_r0 (w_rd hq)) (by decide) ?_
    refine mf_cVv (rest := []) [] (aX5_workOutClashes (d + 4) q hq 26 pl26) mY_X5_workOutClashes dX6_readPlan_85 ml_X6_49 (pl_o (w_pl hq pl26)) rfl rfl (Nat.le_of_ble_eq_true rfl) rfl (fun _ => ?_)
    refine mf_iconst (v := 1) dX6_readPlan_88 rfl ?_
    exact mf_ireturn dX6_readPlan_89 rfl rfl ⟨rfl, rfl⟩
  · refine mf_aload_n 0 dX6_readPlan_35 rfl ?_
    refine mf_geti 6 1 dX6_readPlan_36 fl_X6_18 (by decide) (by decide) rfl (rd_o (w_rd hq)) (fun v2 => ?_)
    refine mf_sipush (v := 1400) dX6_readPlan_39 (by decide) ?_
    refine mf_icmp_gt (tgt := 81) dX6_readPlan_42 (by decide) ?_ ?_
    · refine mf_aload_n 0 dX6_readPlan_81 rfl ?_
      refine mf_getr 6 0 dX6_readPlan_82 fl_X6_12 (by decide) (by decide) rfl (rd_o (w_rd hq)) (rd_r0 (w_rd hq)) (by decide) ?_
      refine mf_cVv (rest := []) [] (aX5_workOutClashes (d + 4) q hq 26 pl26) mY_X5_workOutClashes dX6_readPlan_85 ml_X6_49 (pl_o (w_pl hq pl26)) rfl rfl (Nat.le_of_ble_eq_true rfl) rfl (fun _ => ?_)
      refine mf_iconst (v := 1) dX6_readPlan_88 rfl ?_
      exact mf_ireturn dX6_readPlan_89 rfl rfl ⟨rfl, rfl⟩
    · refine mf_aload_n 0 dX6_readPlan_45 rfl ?_
      refine mf_aload_n 1 dX6_readPlan_46 rfl ?_
      refine mf_cVi (rest := []) [.ref 1] (aX6_readLine (d + 0) q hq) mY_X6_readLine dX6_readPlan_47 ml_X6_41 (rd_o (w_rd hq)) rfl rfl (Nat.le_of_ble_eq_true rfl) rfl (fun v3 => ?_)
      refine mf_if_eq (tgt := 62) dX6_readPlan_50 (by decide) ?_ ?_
      · refine mf_iconst (v := 0) dX6_readPlan_62 rfl ?_
        exact mf_ireturn dX6_readPlan_63 rfl rfl ⟨rfl, rfl⟩
      · refine mf_aload_n 1 dX6_readPlan_53 rfl ?_
        refine mf_bipush (v := 59) dX6_readPlan_54 (by decide) ?_
        refine mf_cVi (rest := []) [.int 59] (aX10_mustBe (d + 4) q hq 59) mY_X10_mustBe dX6_readPlan_56 ml_X6_45 (tx_o (w_tx hq)) rfl rfl (Nat.le_of_ble_eq_true rfl) rfl (fun v4 => ?_)
        refine mf_if_ne (tgt := 64) dX6_readPlan_59 (by decide) ?_ ?_
        · refine mf_aload_n 0 dX6_readPlan_64 rfl ?_
          refine mf_dup dX6_readPlan_65 rfl ?_
          refine mf_geti 6 1 dX6_readPlan_66 fl_X6_18 (by decide) (by decide) rfl (rd_o (w_rd hq)) (fun v5 => ?_)
          refine mf_iconst (v := 1) dX6_readPlan_69 rfl ?_
          refine mf_iadd dX6_readPlan_70 ?_
          refine mf_puti 6 1 dX6_readPlan_71 fl_X6_18 (by decide) (by decide) rfl rfl (rd_o (w_rd hq)) ?_
          refine mf_aload_n 1 dX6_readPlan_74 rfl ?_
          refine mf_cVv (rest := []) [] (aX10_next (d + 3) q hq) mY_X10_next dX6_readPlan_75 ml_X6_35 (tx_o (w_tx hq)) rfl rfl (Nat.le_of_ble_eq_true rfl) rfl (fun _ => ?_)
          refine mf_goto (tgt := 28) dX6_readPlan_78 (by decide) ?_
          exact h28
        · refine mf_iconst (v := 0) dX6_readPlan_62 rfl ?_
          exact mf_ireturn dX6_readPlan_63 rfl rfl ⟨rfl, rfl⟩
set_option maxRecDepth 100000 in
set_option maxHeartbeats 4000000 in
theorem aX7_addStep (d : Nat) (q : m_S) (hq : isW q) (a1 : Int32) (a2 : Int32) (a3 : Int32) : AC rU yX7_addStep cX7_addStep 4 none (d + 1) [.ref 135, .int a1, .int a2, .int a3] q (fX7_addStep a1 a2 a3) := by
  refine ac_of (by decide +kernel) (Nat.le_of_ble_eq_true rfl) ?_
  unfold fX7_addStep
  show MF rU (yX7_addStep.cls, cX7_addStep, 4, none, yX7_addStep.name, d + 1, 0, 0) 0 [(0, .ref 135), (1, .int a1), (2, .int a2), (3, .int a3)] [] q _
  refine mf_aload_n 0 dX7_addStep_0 rfl ?_
  refine mf_geti 7 2 dX7_addStep_1 fl_X7_19 (by decide) (by decide) rfl (se_o (w_se hq se135)) (fun v1 => ?_)
  refine mf_aload_n 0 dX7_addStep_4 rfl ?_
  refine mf_getr 7 3 dX7_addStep_5 fl_X7_22 (by decide) (by decide) rfl (se_o (w_se hq se135)) (se_r3 (w_se hq se135)) (by decide) ?_
  refine mf_alen (t := 0) (by decide) dX7_addStep_8 (se_a3 (w_se hq se135)) ?_
  refine mf_icmp_ge (tgt := 52) dX7_addStep_9 (by decide) ?_ ?_
  · exact mf_return dX7_addStep_52 rfl ⟨rfl, rfl⟩
  · refine mf_aload_n 0 dX7_addStep_12 rfl ?_
    refine mf_getr 7 3 dX7_addStep_13 fl_X7_22 (by decide) (by decide) rfl (se_o (w_se hq se135)) (se_r3 (w_se hq se135)) (by decide) ?_
    refine mf_aload_n 0 dX7_addStep_16 rfl ?_
    refine mf_geti 7 2 dX7_addStep_17 fl_X7_19 (by decide) (by decide) rfl (se_o (w_se hq se135)) (fun v2 => ?_)
    refine mf_iload_n 1 dX7_addStep_20 rfl ?_
    refine mf_iast dX7_addStep_21 (se_a3 (w_se hq se135)) ?_
    refine mf_aload_n 0 dX7_addStep_22 rfl ?_
    refine mf_getr 7 4 dX7_addStep_23 fl_X7_26 (by decide) (by decide) rfl (se_o (w_se hq se135)) (se_r4 (w_se hq se135)) (by decide) ?_
    refine mf_aload_n 0 dX7_addStep_26 rfl ?_
    refine mf_geti 7 2 dX7_addStep_27 fl_X7_19 (by decide) (by decide) rfl (se_o (w_se hq se135)) (fun v3 => ?_)
    refine mf_iload_n 2 dX7_addStep_30 rfl ?_
    refine mf_iast dX7_addStep_31 (se_a4 (w_se hq se135)) ?_
    refine mf_aload_n 0 dX7_addStep_32 rfl ?_
    refine mf_getr 7 5 dX7_addStep_33 fl_X7_29 (by decide) (by decide) rfl (se_o (w_se hq se135)) (se_r5 (w_se hq se135)) (by decide) ?_
    refine mf_aload_n 0 dX7_addStep_36 rfl ?_
    refine mf_geti 7 2 dX7_addStep_37 fl_X7_19 (by decide) (by decide) rfl (se_o (w_se hq se135)) (fun v4 => ?_)
    refine mf_iload_n 3 dX7_addStep_40 rfl ?_
    refine mf_iast dX7_addStep_41 (se_a5 (w_se hq se135)) ?_
    refine mf_aload_n 0 dX7_addStep_42 rfl ?_
    refine mf_dup dX7_addStep_43 rfl ?_
    refine mf_geti 7 2 dX7_addStep_44 fl_X7_19 (by decide) (by decide) rfl (se_o (w_se hq se135)) (fun v5 => ?_)
    refine mf_iconst (v := 1) dX7_addStep_47 rfl ?_
    refine mf_iadd dX7_addStep_48 ?_
    refine mf_puti 7 2 dX7_addStep_49 fl_X7_19 (by decide) (by decide) rfl rfl (se_o (w_se hq se135)) ?_
    exact mf_return dX7_addStep_52 rfl ⟨rfl, rfl⟩
set_option maxRecDepth 100000 in
set_option maxHeartbeats 4000000 in
theorem aX7_readPlainOne (d : Nat) (q : m_S) (hq : isW q) (a1 : Int32) : AC rI yX7_readPlainOne cX7_readPlainOne 6 (some .boolean) (d + 5) [.ref 135, .ref 1, .ref 4, .int a1] q (fX7_readPlainOne a1) := by
  refine ac_of (by decide +kernel) (Nat.le_of_ble_eq_true rfl) ?_
  unfold fX7_readPlainOne
  show MF rI (yX7_readPlainOne.cls, cX7_readPlainOne, 6, (some .boolean), yX7_readPlainOne.name, d + 5, 0, 0) 0 [(0, .ref 135), (1, .ref 1), (2, .ref 4), (3, .int a1)] [] q _
  refine mf_iconst (v := 0) dX7_readPlainOne_0 rfl ?_
  refine mf_istore [(4, .int 0), (0, .ref 135), (1, .ref 1), (2, .ref 4), (3, .int a1)] dX7_readPlainOne_1 (Nat.le_of_ble_eq_true rfl) rfl ?_
  refine mf_iconst (v := 0) dX7_readPlainOne_3 rfl ?_
  refine mf_istore [(5, .int 0), (4, .int 0), (0, .ref 135), (1, .ref 1), (2, .ref 4), (3, .int a1)] dX7_readPlainOne_4 (Nat.le_of_ble_eq_true rfl) rfl ?_
  refine mf_iload_n 5 dX7_readPlainOne_6 rfl ?_
  refine mf_bipush (v := 27) dX7_readPlainOne_7 (by decide) ?_
  refine mf_icmp_eq (tgt := 18) dX7_readPlainOne_9 (by decide) ?_ ?_
  · refine mf_aload_n 3 dX7_readPlainOne_18 rfl ?_
    refine mf_aload_n 4 dX7_readPlainOne_19 rfl ?_
    refine mf_iload_n 5 dX7_readPlainOne_20 rfl ?_
    refine mf_bipush (v := 27) dX7_readPlainOne_21 (by decide) ?_
    refine mf_jo1 (pj := 31) (lvj := fun w1 => [(0, .ref 135), (3, .int a1), (5, .int 0)]) (stj := fun w1 => [.int w1, .ref 4, .ref 1]) (fun w1 => ?_) (fun J31 hJ31 => ?_)
    · show MF rI (yX7_readPlainOne.cls, cX7_readPlainOne, 6, (some .boolean), yX7_readPlainOne.name, d + 5, 0, 0) 31 [(0, .ref 135), (3, .int a1), (5, .int 0)] [.int w1, .ref 4, .ref 1] q _
      refine mf_cVi (rest := []) [.ref 4, .int w1] (aX10_nextNamed (d + 0) q hq 4 w1 pl4) mY_X10_nextNamed dX7_readPlainOne_31 ml_X7_82 (tx_o (w_tx hq)) rfl rfl (Nat.le_of_ble_eq_true rfl) rfl (fun v2 => ?_)
      refine mf_istore [(4, .int v2), (0, .ref 135), (3, .int a1), (5, .int 0)] dX7_readPlainOne_34 (Nat.le_of_ble_eq_true rfl) rfl ?_
      refine mf_goto (tgt := 98) dX7_readPlainOne_36 (by decide) ?_
      refine mf_iload 0 dX7_readPlainOne_98 rfl ?_
      refine mf_iconst (v := -1) dX7_readPlainOne_100 rfl ?_
      refine mf_icmp_ne (tgt := 106) dX7_readPlainOne_101 (by decide) ?_ ?_
      · refine mf_aload_n 1 dX7_readPlainOne_106 rfl ?_
        refine mf_iload_n 2 dX7_readPlainOne_107 rfl ?_
        refine mf_iload 0 dX7_readPlainOne_108 rfl ?_
        refine mf_iload 3 dX7_readPlainOne_110 rfl ?_
        refine mf_cVv (rest := []) [.int a1, .int v2, .int 0] (aX7_addStep (d + 3) q hq a1 v2 0) mY_X7_addStep dX7_readPlainOne_112 ml_X7_65 (se_o (w_se hq se135)) rfl rfl (Nat.le_of_ble_eq_true rfl) rfl (fun _ => ?_)
        refine mf_iconst (v := 1) dX7_readPlainOne_115 rfl ?_
        exact mf_ireturn dX7_readPlainOne_116 rfl rfl ⟨rfl, rfl⟩
      · refine mf_iconst (v := 0) dX7_readPlainOne_104 rfl ?_
        exact mf_ireturn dX7_readPlainOne_105 rfl rfl ⟨rfl, rfl⟩
    refine mf_icmp_ne (tgt := 30) dX7_readPlainOne_23 (by decide) ?_ ?_
    · refine mf_iconst (v := 4) dX7_readPlainOne_30 rfl ?_
      refine mf_sub [2, 5, 0] rfl ?_
      exact hJ31 _
    · refine mf_iconst (v := 0) dX7_readPlainOne_26 rfl ?_
      refine mf_goto (tgt := 31) dX7_readPlainOne_27 (by decide) ?_
      refine mf_sub [2, 5, 0] rfl ?_
      exact hJ31 _
  · refine mf_iload_n 5 dX7_readPlainOne_12 rfl ?_
    refine mf_bipush (v := 28) dX7_readPlainOne_13 (by decide) ?_
    refine mf_icmp_ne (tgt := 39) dX7_readPlainOne_15 (by decide) ?_ ?_
    · refine mf_iload_n 5 dX7_readPlainOne_39 rfl ?_
      refine mf_bipush (v := 29) dX7_readPlainOne_40 (by decide) ?_
      refine mf_icmp_lt (tgt := 98) dX7_readPlainOne_42 (by decide) ?_ ?_
      · refine mf_iload 1 dX7_readPlainOne_98 rfl ?_
        refine mf_iconst (v := -1) dX7_readPlainOne_100 rfl ?_
        refine mf_icmp_ne_t (tgt := 106) dX7_readPlainOne_101 (by decide) (by decide) ?_
        refine mf_aload_n 2 dX7_readPlainOne_106 rfl ?_
        refine mf_iload_n 5 dX7_readPlainOne_107 rfl ?_
        refine mf_iload 1 dX7_readPlainOne_108 rfl ?_
        refine mf_iload 0 dX7_readPlainOne_110 rfl ?_
        refine mf_cVv (rest := []) [.int a1, .int 0, .int 0] (aX7_addStep (d + 3) q hq a1 0 0) mY_X7_addStep dX7_readPlainOne_112 ml_X7_65 (se_o (w_se hq se135)) rfl rfl (Nat.le_of_ble_eq_true rfl) rfl (fun _ => ?_)
        refine mf_iconst (v := 1) dX7_readPlainOne_115 rfl ?_
        exact mf_ireturn dX7_readPlainOne_116 rfl rfl ⟨rfl, rfl⟩
      · refine mf_aload_n 3 dX7_readPlainOne_45 rfl ?_
        refine mf_cVv (rest := []) [] (aX10_next (d + 1) q hq) mY_X10_next dX7_readPlainOne_46 ml_X7_45 (tx_o (w_tx hq)) rfl rfl (Nat.le_of_ble_eq_true rfl) rfl (fun _ => ?_)
        refine mf_aload_n 3 dX7_readPlainOne_49 rfl ?_
        refine mf_bipush (v := 60) dX7_readPlainOne_50 (by decide) ?_
        refine mf_cVi (rest := []) [.int 60] (aX10_isSign (d + 3) q hq 60) mY_X10_isSign dX7_readPlainOne_52 ml_X7_72 (tx_o (w_tx hq)) rfl rfl (Nat.le_of_ble_eq_true rfl) rfl (fun v3 => ?_)
        refine mf_jo0 (pj := 82) (lvj := [(0, .ref 135), (1, .ref 1), (3, .int a1)]) (stj := []) ?_ (fun J82 hJ82 => ?_)
        · show MF rI (yX7_readPlainOne.cls, cX7_readPlainOne, 6, (some .boolean), yX7_readPlainOne.name, d + 5, 0, 0) 82 [(0, .ref 135), (1, .ref 1), (3, .int a1)] [] q _
          refine mf_aload_n 1 dX7_readPlainOne_82 rfl ?_
          refine mf_geti 10 6 dX7_readPlainOne_83 fl_X7_86 (by decide) (by decide) rfl (tx_o (w_tx hq)) (fun v4 => ?_)
          refine mf_istore [(5, .int v4), (0, .ref 135), (1, .ref 1), (3, .int a1)] dX7_readPlainOne_86 (Nat.le_of_ble_eq_true rfl) rfl ?_
          refine mf_aload_n 2 dX7_readPlainOne_88 rfl ?_
          refine mf_iconst (v := 0) dX7_readPlainOne_89 rfl ?_
          refine mf_sipush (v := 999) dX7_readPlainOne_90 (by decide) ?_
          refine mf_cVi (rest := []) [.int 0, .int 999] (aX10_nextNumber (d + 0) q hq 0 999) mY_X10_nextNumber dX7_readPlainOne_93 ml_X7_89 (tx_o (w_tx hq)) rfl rfl (Nat.le_of_ble_eq_true rfl) rfl (fun v5 => ?_)
          refine mf_istore [(4, .int v5), (5, .int v4), (0, .ref 135), (1, .ref 1), (3, .int a1)] dX7_readPlainOne_96 (Nat.le_of_ble_eq_true rfl) rfl ?_
          refine mf_iload 0 dX7_readPlainOne_98 rfl ?_
          refine mf_iconst (v := -1) dX7_readPlainOne_100 rfl ?_
          refine mf_icmp_ne (tgt := 106) dX7_readPlainOne_101 (by decide) ?_ ?_
          · refine mf_aload_n 2 dX7_readPlainOne_106 rfl ?_
            refine mf_iload_n 4 dX7_readPlainOne_107 rfl ?_
            refine mf_iload 0 dX7_readPlainOne_108 rfl ?_
            refine mf_iload 1 dX7_readPlainOne_110 rfl ?_
            refine mf_cVv (rest := []) [.int a1, .int v5, .int v4] (aX7_addStep (d + 3) q hq a1 v5 v4) mY_X7_addStep dX7_readPlainOne_112 ml_X7_65 (se_o (w_se hq se135)) rfl rfl (Nat.le_of_ble_eq_true rfl) rfl (fun _ => ?_)
            refine mf_iconst (v := 1) dX7_readPlainOne_115 rfl ?_
            exact mf_ireturn dX7_readPlainOne_116 rfl rfl ⟨rfl, rfl⟩
          · refine mf_iconst (v := 0) dX7_readPlainOne_104 rfl ?_
            exact mf_ireturn dX7_readPlainOne_105 rfl rfl ⟨rfl, rfl⟩
        refine mf_if_ne (tgt := 82) dX7_readPlainOne_55 (by decide) ?_ ?_
        · refine mf_sub [2, 3, 5] rfl ?_
          exact hJ82
        · refine mf_aload_n 3 dX7_readPlainOne_58 rfl ?_
          refine mf_bipush (v := 61) dX7_readPlainOne_59 (by decide) ?_
          refine mf_cVi (rest := []) [.int 61] (aX10_isSign (d + 3) q hq 61) mY_X10_isSign dX7_readPlainOne_61 ml_X7_72 (tx_o (w_tx hq)) rfl rfl (Nat.le_of_ble_eq_true rfl) rfl (fun v6 => ?_)
          refine mf_if_ne (tgt := 82) dX7_readPlainOne_64 (by decide) ?_ ?_
          · refine mf_sub [2, 3, 5] rfl ?_
            exact hJ82
          · refine mf_aload_n 3 dX7_readPlainOne_67 rfl ?_
            refine mf_bipush (v := 62) dX7_readPlainOne_68 (by decide) ?_
            refine mf_cVi (rest := []) [.int 62] (aX10_isSign (d + 3) q hq 62) mY_X10_isSign dX7_readPlainOne_70 ml_X7_72 (tx_o (w_tx hq)) rfl rfl (Nat.le_of_ble_eq_true rfl) rfl (fun v7 => ?_)
            refine mf_if_ne (tgt := 82) dX7_readPlainOne_73 (by decide) ?_ ?_
            · refine mf_sub [2, 3, 5] rfl ?_
              exact hJ82
            · refine mf_aload_n 3 dX7_readPlainOne_76 rfl ?_
              refine mf_iconst (v := 1) dX7_readPlainOne_77 rfl ?_
              refine mf_cVi (rest := []) [.int 1] (aX10_wrong (d + 3) q hq 1) mY_X10_wrong dX7_readPlainOne_78 ml_X7_55 (tx_o (w_tx hq)) rfl rfl (Nat.le_of_ble_eq_true rfl) rfl (fun v8 => ?_)
              exact mf_zreturn dX7_readPlainOne_81 rfl ⟨rfl, rfl⟩
    · refine mf_aload_n 3 dX7_readPlainOne_18 rfl ?_
      refine mf_aload_n 4 dX7_readPlainOne_19 rfl ?_
      refine mf_iload_n 5 dX7_readPlainOne_20 rfl ?_
      refine mf_bipush (v := 27) dX7_readPlainOne_21 (by decide) ?_
      refine mf_jo1 (pj := 31) (lvj := fun w9 => [(0, .ref 135), (3, .int a1), (5, .int 0)]) (stj := fun w9 => [.int w9, .ref 4, .ref 1]) (fun w9 => ?_) (fun J31 hJ31 => ?_)
      · show MF rI (yX7_readPlainOne.cls, cX7_readPlainOne, 6, (some .boolean), yX7_readPlainOne.name, d + 5, 0, 0) 31 [(0, .ref 135), (3, .int a1), (5, .int 0)] [.int w9, .ref 4, .ref 1] q _
        refine mf_cVi (rest := []) [.ref 4, .int w9] (aX10_nextNamed (d + 0) q hq 4 w9 pl4) mY_X10_nextNamed dX7_readPlainOne_31 ml_X7_82 (tx_o (w_tx hq)) rfl rfl (Nat.le_of_ble_eq_true rfl) rfl (fun v10 => ?_)
        refine mf_istore [(4, .int v10), (0, .ref 135), (3, .int a1), (5, .int 0)] dX7_readPlainOne_34 (Nat.le_of_ble_eq_true rfl) rfl ?_
        refine mf_goto (tgt := 98) dX7_readPlainOne_36 (by decide) ?_
        refine mf_iload 0 dX7_readPlainOne_98 rfl ?_
        refine mf_iconst (v := -1) dX7_readPlainOne_100 rfl ?_
        refine mf_icmp_ne (tgt := 106) dX7_readPlainOne_101 (by decide) ?_ ?_
        · refine mf_aload_n 1 dX7_readPlainOne_106 rfl ?_
          refine mf_iload_n 2 dX7_readPlainOne_107 rfl ?_
          refine mf_iload 0 dX7_readPlainOne_108 rfl ?_
          refine mf_iload 3 dX7_readPlainOne_110 rfl ?_
          refine mf_cVv (rest := []) [.int a1, .int v10, .int 0] (aX7_addStep (d + 3) q hq a1 v10 0) mY_X7_addStep dX7_readPlainOne_112 ml_X7_65 (se_o (w_se hq se135)) rfl rfl (Nat.le_of_ble_eq_true rfl) rfl (fun _ => ?_)
          refine mf_iconst (v := 1) dX7_readPlainOne_115 rfl ?_
          exact mf_ireturn dX7_readPlainOne_116 rfl rfl ⟨rfl, rfl⟩
        · refine mf_iconst (v := 0) dX7_readPlainOne_104 rfl ?_
          exact mf_ireturn dX7_readPlainOne_105 rfl rfl ⟨rfl, rfl⟩
      refine mf_icmp_ne (tgt := 30) dX7_readPlainOne_23 (by decide) ?_ ?_
      · refine mf_iconst (v := 4) dX7_readPlainOne_30 rfl ?_
        refine mf_sub [2, 5, 0] rfl ?_
        exact hJ31 _
      · refine mf_iconst (v := 0) dX7_readPlainOne_26 rfl ?_
        refine mf_goto (tgt := 31) dX7_readPlainOne_27 (by decide) ?_
        refine mf_sub [2, 5, 0] rfl ?_
        exact hJ31 _
set_option maxRecDepth 100000 in
set_option maxHeartbeats 4000000 in
theorem bX7_readOne (d : Nat) (q : m_S) (hq : isW q) (fX7_readCond : Int32 → RM Int32) (fX7_readOne : Int32 → RM Int32) (hX7_readCond : ∀ a1, AC rI yX7_readCond cX7_readCond 5 (some .boolean) (d + 6) [.ref 135, .ref 1, .ref 4, .int a1] q (fX7_readCond a1)) (hX7_readOne : ∀ a1, AC rI yX7_readOne cX7_readOne 6 (some .boolean) (d + 6) [.ref 135, .ref 1, .ref 4, .int a1] q (fX7_readOne a1)) (a1 : Int32) : AC rI yX7_readOne cX7_readOne 6 (some .boolean) (d + 7) [.ref 135, .ref 1, .ref 4, .int a1] q (gX7_readOne fX7_readCond fX7_readOne a1) := by
  refine ac_of (by decide +kernel) (Nat.le_of_ble_eq_true rfl) ?_
  unfold gX7_readOne
  show MF rI (yX7_readOne.cls, cX7_readOne, 6, (some .boolean), yX7_readOne.name, d + 7, 0, 0) 0 [(0, .ref 135), (1, .ref 1), (2, .ref 4), (3, .int a1)] [] q _
  refine mf_aload_n 1 dX7_readOne_0 rfl ?_
  refine mf_bipush (v := 40) dX7_readOne_1 (by decide) ?_
  refine mf_cVi (rest := []) [.int 40] (aX10_isSign (d + 5) q hq 40) mY_X10_isSign dX7_readOne_3 ml_X7_72 (tx_o (w_tx hq)) rfl rfl (Nat.le_of_ble_eq_true rfl) rfl (fun v1 => ?_)
  refine mf_istore [(4, .int v1), (0, .ref 135), (1, .ref 1), (2, .ref 4), (3, .int a1)] dX7_readOne_6 (Nat.le_of_ble_eq_true rfl) rfl ?_
  refine mf_aload_n 2 dX7_readOne_8 rfl ?_
  refine mf_geti 10 8 dX7_readOne_9 fl_X7_62 (by decide) (by decide) rfl (tx_o (w_tx hq)) (fun v2 => ?_)
  refine mf_istore [(5, .int v2), (4, .int v1), (0, .ref 135), (1, .ref 1), (2, .ref 4), (3, .int a1)] dX7_readOne_12 (Nat.le_of_ble_eq_true rfl) rfl ?_
  refine mf_iload 1 dX7_readOne_14 rfl ?_
  refine mf_jo0 (pj := 39) (lvj := [(0, .ref 135), (1, .ref 1), (2, .ref 4), (3, .int a1), (4, .int v1), (5, .int v2)]) (stj := []) ?_ (fun J39 hJ39 => ?_)
  · show MF rI (yX7_readOne.cls, cX7_readOne, 6, (some .boolean), yX7_readOne.name, d + 7, 0, 0) 39 [(0, .ref 135), (1, .ref 1), (2, .ref 4), (3, .int a1), (4, .int v1), (5, .int v2)] [] q _
    refine mf_aload_n 0 dX7_readOne_39 rfl ?_
    refine mf_geti 7 1 dX7_readOne_40 fl_X7_15 (by decide) (by decide) rfl (se_o (w_se hq se135)) (fun v3 => ?_)
    refine mf_bipush (v := 20) dX7_readOne_43 (by decide) ?_
    refine mf_icmp_ge (tgt := 54) dX7_readOne_45 (by decide) ?_ ?_
    · refine mf_aload_n 1 dX7_readOne_54 rfl ?_
      refine mf_iconst (v := 4) dX7_readOne_55 rfl ?_
      refine mf_cVi (rest := []) [.int 4] (aX10_wrong (d + 5) q hq 4) mY_X10_wrong dX7_readOne_56 ml_X7_55 (tx_o (w_tx hq)) rfl rfl (Nat.le_of_ble_eq_true rfl) rfl (fun v4 => ?_)
      exact mf_zreturn dX7_readOne_59 rfl ⟨rfl, rfl⟩
    · refine mf_iload_n 3 dX7_readOne_48 rfl ?_
      refine mf_bipush (v := 8) dX7_readOne_49 (by decide) ?_
      refine mf_icmp_le (tgt := 60) dX7_readOne_51 (by decide) ?_ ?_
      · refine mf_aload_n 0 dX7_readOne_60 rfl ?_
        refine mf_dup dX7_readOne_61 rfl ?_
        refine mf_geti 7 1 dX7_readOne_62 fl_X7_15 (by decide) (by decide) rfl (se_o (w_se hq se135)) (fun v5 => ?_)
        refine mf_iconst (v := 1) dX7_readOne_65 rfl ?_
        refine mf_iadd dX7_readOne_66 ?_
        refine mf_puti 7 1 dX7_readOne_67 fl_X7_15 (by decide) (by decide) rfl rfl (se_o (w_se hq se135)) ?_
        refine mf_iload 4 dX7_readOne_70 rfl ?_
        refine mf_if_eq (tgt := 102) dX7_readOne_72 (by decide) ?_ ?_
        · refine mf_iload 5 dX7_readOne_102 rfl ?_
          refine mf_bipush (v := 23) dX7_readOne_104 (by decide) ?_
          refine mf_icmp_ne (tgt := 137) dX7_readOne_106 (by decide) ?_ ?_
          · refine mf_aload_n 0 dX7_readOne_137 rfl ?_
            refine mf_aload_n 1 dX7_readOne_138 rfl ?_
            refine mf_aload_n 2 dX7_readOne_139 rfl ?_
            refine mf_iload 5 dX7_readOne_140 rfl ?_
            refine mf_cVi (rest := []) [.ref 1, .ref 4, .int v2] (aX7_readPlainOne (d + 1) q hq v2) mY_X7_readPlainOne dX7_readOne_142 ml_X7_79 (se_o (w_se hq se135)) rfl rfl (Nat.le_of_ble_eq_true rfl) rfl (fun v6 => ?_)
            refine mf_if_ne (tgt := 150) dX7_readOne_145 (by decide) ?_ ?_
            · refine mf_aload_n 1 dX7_readOne_150 rfl ?_
              refine mf_cVv (rest := []) [] (aX10_next (d + 3) q hq) mY_X10_next dX7_readOne_151 ml_X7_45 (tx_o (w_tx hq)) rfl rfl (Nat.le_of_ble_eq_true rfl) rfl (fun _ => ?_)
              refine mf_iconst (v := 1) dX7_readOne_154 rfl ?_
              exact mf_ireturn dX7_readOne_155 rfl rfl ⟨rfl, rfl⟩
            · refine mf_iconst (v := 0) dX7_readOne_148 rfl ?_
              exact mf_ireturn dX7_readOne_149 rfl rfl ⟨rfl, rfl⟩
          · refine mf_aload_n 1 dX7_readOne_109 rfl ?_
            refine mf_cVv (rest := []) [] (aX10_next (d + 3) q hq) mY_X10_next dX7_readOne_110 ml_X7_45 (tx_o (w_tx hq)) rfl rfl (Nat.le_of_ble_eq_true rfl) rfl (fun _ => ?_)
            refine mf_aload_n 0 dX7_readOne_113 rfl ?_
            refine mf_aload_n 1 dX7_readOne_114 rfl ?_
            refine mf_aload_n 2 dX7_readOne_115 rfl ?_
            refine mf_iload_n 3 dX7_readOne_116 rfl ?_
            refine mf_iconst (v := 1) dX7_readOne_117 rfl ?_
            refine mf_iadd dX7_readOne_118 ?_
            refine mf_cVi (rest := []) [.ref 1, .ref 4, .int (a1 + 1)] (hX7_readOne (a1 + 1)) mY_X7_readOne dX7_readOne_119 ml_X7_69 (se_o (w_se hq se135)) rfl rfl (Nat.le_of_ble_eq_true rfl) rfl (fun v7 => ?_)
            refine mf_if_ne (tgt := 127) dX7_readOne_122 (by decide) ?_ ?_
            · refine mf_aload_n 0 dX7_readOne_127 rfl ?_
              refine mf_bipush (v := 23) dX7_readOne_128 (by decide) ?_
              refine mf_iconst (v := 0) dX7_readOne_130 rfl ?_
              refine mf_iconst (v := 0) dX7_readOne_131 rfl ?_
              refine mf_cVv (rest := []) [.int 23, .int 0, .int 0] (aX7_addStep (d + 5) q hq 23 0 0) mY_X7_addStep dX7_readOne_132 ml_X7_65 (se_o (w_se hq se135)) rfl rfl (Nat.le_of_ble_eq_true rfl) rfl (fun _ => ?_)
              refine mf_iconst (v := 1) dX7_readOne_135 rfl ?_
              exact mf_ireturn dX7_readOne_136 rfl rfl ⟨rfl, rfl⟩
            · refine mf_iconst (v := 0) dX7_readOne_125 rfl ?_
              exact mf_ireturn dX7_readOne_126 rfl rfl ⟨rfl, rfl⟩
        · refine mf_aload_n 1 dX7_readOne_75 rfl ?_
          refine mf_cVv (rest := []) [] (aX10_next (d + 3) q hq) mY_X10_next dX7_readOne_76 ml_X7_45 (tx_o (w_tx hq)) rfl rfl (Nat.le_of_ble_eq_true rfl) rfl (fun _ => ?_)
          refine mf_aload_n 0 dX7_readOne_79 rfl ?_
          refine mf_aload_n 1 dX7_readOne_80 rfl ?_
          refine mf_aload_n 2 dX7_readOne_81 rfl ?_
          refine mf_iload_n 3 dX7_readOne_82 rfl ?_
          refine mf_iconst (v := 1) dX7_readOne_83 rfl ?_
          refine mf_iadd dX7_readOne_84 ?_
          refine mf_cVi (rest := []) [.ref 1, .ref 4, .int (a1 + 1)] (hX7_readCond (a1 + 1)) mY_X7_readCond dX7_readOne_85 ml_X7_48 (se_o (w_se hq se135)) rfl rfl (Nat.le_of_ble_eq_true rfl) rfl (fun v8 => ?_)
          refine mf_if_eq (tgt := 100) dX7_readOne_88 (by decide) ?_ ?_
          · refine mf_iconst (v := 0) dX7_readOne_100 rfl ?_
            exact mf_ireturn dX7_readOne_101 rfl rfl ⟨rfl, rfl⟩
          · refine mf_aload_n 1 dX7_readOne_91 rfl ?_
            refine mf_bipush (v := 41) dX7_readOne_92 (by decide) ?_
            refine mf_cVi (rest := []) [.int 41] (aX10_mustBe (d + 4) q hq 41) mY_X10_mustBe dX7_readOne_94 ml_X7_76 (tx_o (w_tx hq)) rfl rfl (Nat.le_of_ble_eq_true rfl) rfl (fun v9 => ?_)
            refine mf_if_ne (tgt := 150) dX7_readOne_97 (by decide) ?_ ?_
            · refine mf_aload_n 1 dX7_readOne_150 rfl ?_
              refine mf_cVv (rest := []) [] (aX10_next (d + 3) q hq) mY_X10_next dX7_readOne_151 ml_X7_45 (tx_o (w_tx hq)) rfl rfl (Nat.le_of_ble_eq_true rfl) rfl (fun _ => ?_)
              refine mf_iconst (v := 1) dX7_readOne_154 rfl ?_
              exact mf_ireturn dX7_readOne_155 rfl rfl ⟨rfl, rfl⟩
            · refine mf_iconst (v := 0) dX7_readOne_100 rfl ?_
              exact mf_ireturn dX7_readOne_101 rfl rfl ⟨rfl, rfl⟩
      · refine mf_aload_n 1 dX7_readOne_54 rfl ?_
        refine mf_iconst (v := 4) dX7_readOne_55 rfl ?_
        refine mf_cVi (rest := []) [.int 4] (aX10_wrong (d + 5) q hq 4) mY_X10_wrong dX7_readOne_56 ml_X7_55 (tx_o (w_tx hq)) rfl rfl (Nat.le_of_ble_eq_true rfl) rfl (fun v10 => ?_)
        exact mf_zreturn dX7_readOne_59 rfl ⟨rfl, rfl⟩
  refine mf_if_ne (tgt := 39) dX7_readOne_16 (by decide) ?_ ?_
  · refine mf_sub [2, 3, 4, 5, 1, 0] rfl ?_
    exact hJ39
  · refine mf_iload 0 dX7_readOne_19 rfl ?_
    refine mf_bipush (v := 23) dX7_readOne_21 (by decide) ?_
    refine mf_icmp_lt (tgt := 33) dX7_readOne_23 (by decide) ?_ ?_
    · refine mf_aload_n 3 dX7_readOne_33 rfl ?_
      refine mf_iconst (v := 1) dX7_readOne_34 rfl ?_
      refine mf_cVi (rest := []) [.int 1] (aX10_wrong (d + 5) q hq 1) mY_X10_wrong dX7_readOne_35 ml_X7_55 (tx_o (w_tx hq)) rfl rfl (Nat.le_of_ble_eq_true rfl) rfl (fun v11 => ?_)
      exact mf_zreturn dX7_readOne_38 rfl ⟨rfl, rfl⟩
    · refine mf_iload 0 dX7_readOne_26 rfl ?_
      refine mf_bipush (v := 31) dX7_readOne_28 (by decide) ?_
      refine mf_icmp_le (tgt := 39) dX7_readOne_30 (by decide) ?_ ?_
      · refine mf_sub [2, 3, 4, 5, 1, 0] rfl ?_
        exact hJ39
      · refine mf_aload_n 3 dX7_readOne_33 rfl ?_
        refine mf_iconst (v := 1) dX7_readOne_34 rfl ?_
        refine mf_cVi (rest := []) [.int 1] (aX10_wrong (d + 5) q hq 1) mY_X10_wrong dX7_readOne_35 ml_X7_55 (tx_o (w_tx hq)) rfl rfl (Nat.le_of_ble_eq_true rfl) rfl (fun v12 => ?_)
        exact mf_zreturn dX7_readOne_38 rfl ⟨rfl, rfl⟩
set_option maxRecDepth 100000 in
set_option maxHeartbeats 4000000 in
theorem bX7_readAll (d : Nat) (q : m_S) (hq : isW q) (fX7_readOne : Int32 → RM Int32) (hX7_readOne : ∀ a1, AC rI yX7_readOne cX7_readOne 6 (some .boolean) (d + 6) [.ref 135, .ref 1, .ref 4, .int a1] q (fX7_readOne a1)) (a1 : Int32) : AC rI yX7_readAll cX7_readAll 5 (some .boolean) (d + 7) [.ref 135, .ref 1, .ref 4, .int a1] q (gX7_readAll fX7_readOne a1) := by
  refine ac_of (by decide +kernel) (Nat.le_of_ble_eq_true rfl) ?_
  unfold gX7_readAll
  show MF rI (yX7_readAll.cls, cX7_readAll, 5, (some .boolean), yX7_readAll.name, d + 7, 0, 0) 0 [(0, .ref 135), (1, .ref 1), (2, .ref 4), (3, .int a1)] [] q _
  refine mf_aload_n 0 dX7_readAll_0 rfl ?_
  refine mf_aload_n 1 dX7_readAll_1 rfl ?_
  refine mf_aload_n 2 dX7_readAll_2 rfl ?_
  refine mf_iload_n 3 dX7_readAll_3 rfl ?_
  refine mf_cVi (rest := []) [.ref 1, .ref 4, .int a1] (hX7_readOne a1) mY_X7_readOne dX7_readAll_4 ml_X7_69 (se_o (w_se hq se135)) rfl rfl (Nat.le_of_ble_eq_true rfl) rfl (fun v1 => ?_)
  refine mf_if_ne (tgt := 12) dX7_readAll_7 (by decide) ?_ ?_
  · refine mf_iconst (v := 0) dX7_readAll_12 rfl ?_
    refine mf_istore [(4, .int 0), (0, .ref 135), (1, .ref 1), (2, .ref 4), (3, .int a1)] dX7_readAll_13 (Nat.le_of_ble_eq_true rfl) rfl ?_
    refine mf_sub [1, 2, 3, 4, 0] rfl ?_
    refine mf_lz1 (lv := fun x2 => [(0, .ref 135), (1, .ref 1), (2, .ref 4), (3, .int a1), (4, .int x2)]) (fun L15 h15 x2 => ?_) _ _
    show MF rI (yX7_readAll.cls, cX7_readAll, 5, (some .boolean), yX7_readAll.name, d + 7, 0, 0) 15 [(0, .ref 135), (1, .ref 1), (2, .ref 4), (3, .int a1), (4, .int x2)] [] q _
    refine mf_iload 4 dX7_readAll_15 rfl ?_
    refine mf_bipush (v := 20) dX7_readAll_17 (by decide) ?_
    refine mf_icmp_ge (tgt := 61) dX7_readAll_19 (by decide) ?_ ?_
    · refine mf_iconst (v := 1) dX7_readAll_61 rfl ?_
      exact mf_ireturn dX7_readAll_62 rfl rfl ⟨rfl, rfl⟩
    · refine mf_aload_n 1 dX7_readAll_22 rfl ?_
      refine mf_geti 10 8 dX7_readAll_23 fl_X7_62 (by decide) (by decide) rfl (tx_o (w_tx hq)) (fun v3 => ?_)
      refine mf_bipush (v := 22) dX7_readAll_26 (by decide) ?_
      refine mf_icmp_ne (tgt := 61) dX7_readAll_28 (by decide) ?_ ?_
      · refine mf_iconst (v := 1) dX7_readAll_61 rfl ?_
        exact mf_ireturn dX7_readAll_62 rfl rfl ⟨rfl, rfl⟩
      · refine mf_aload_n 1 dX7_readAll_31 rfl ?_
        refine mf_cVv (rest := []) [] (aX10_next (d + 3) q hq) mY_X10_next dX7_readAll_32 ml_X7_45 (tx_o (w_tx hq)) rfl rfl (Nat.le_of_ble_eq_true rfl) rfl (fun _ => ?_)
        refine mf_aload_n 0 dX7_readAll_35 rfl ?_
        refine mf_aload_n 1 dX7_readAll_36 rfl ?_
        refine mf_aload_n 2 dX7_readAll_37 rfl ?_
        refine mf_iload_n 3 dX7_readAll_38 rfl ?_
        refine mf_cVi (rest := []) [.ref 1, .ref 4, .int a1] (hX7_readOne a1) mY_X7_readOne dX7_readAll_39 ml_X7_69 (se_o (w_se hq se135)) rfl rfl (Nat.le_of_ble_eq_true rfl) rfl (fun v4 => ?_)
        refine mf_if_ne (tgt := 47) dX7_readAll_42 (by decide) ?_ ?_
        · refine mf_aload_n 0 dX7_readAll_47 rfl ?_
          refine mf_bipush (v := 22) dX7_readAll_48 (by decide) ?_
          refine mf_iconst (v := 0) dX7_readAll_50 rfl ?_
          refine mf_iconst (v := 0) dX7_readAll_51 rfl ?_
          refine mf_cVv (rest := []) [.int 22, .int 0, .int 0] (aX7_addStep (d + 5) q hq 22 0 0) mY_X7_addStep dX7_readAll_52 ml_X7_65 (se_o (w_se hq se135)) rfl rfl (Nat.le_of_ble_eq_true rfl) rfl (fun _ => ?_)
          refine mf_iinc 4 (x2 + 1) [(4, .int (x2 + 1)), (0, .ref 135), (1, .ref 1), (2, .ref 4), (3, .int a1)] dX7_readAll_55 rfl rfl (Nat.le_of_ble_eq_true rfl) rfl ?_
          refine mf_goto (tgt := 15) dX7_readAll_58 (by decide) ?_
          refine mf_sub [1, 2, 3, 4, 0] rfl ?_
          exact h15 _
        · refine mf_iconst (v := 0) dX7_readAll_45 rfl ?_
          exact mf_ireturn dX7_readAll_46 rfl rfl ⟨rfl, rfl⟩
  · refine mf_iconst (v := 0) dX7_readAll_10 rfl ?_
    exact mf_ireturn dX7_readAll_11 rfl rfl ⟨rfl, rfl⟩
set_option maxRecDepth 100000 in
set_option maxHeartbeats 4000000 in
theorem bX7_readCond (d : Nat) (q : m_S) (hq : isW q) (fX7_readAll : Int32 → RM Int32) (hX7_readAll : ∀ a1, AC rI yX7_readAll cX7_readAll 5 (some .boolean) (d + 6) [.ref 135, .ref 1, .ref 4, .int a1] q (fX7_readAll a1)) (a1 : Int32) : AC rI yX7_readCond cX7_readCond 5 (some .boolean) (d + 7) [.ref 135, .ref 1, .ref 4, .int a1] q (gX7_readCond fX7_readAll a1) := by
  refine ac_of (by decide +kernel) (Nat.le_of_ble_eq_true rfl) ?_
  unfold gX7_readCond
  show MF rI (yX7_readCond.cls, cX7_readCond, 5, (some .boolean), yX7_readCond.name, d + 7, 0, 0) 0 [(0, .ref 135), (1, .ref 1), (2, .ref 4), (3, .int a1)] [] q _
  refine mf_aload_n 0 dX7_readCond_0 rfl ?_
  refine mf_aload_n 1 dX7_readCond_1 rfl ?_
  refine mf_aload_n 2 dX7_readCond_2 rfl ?_
  refine mf_iload_n 3 dX7_readCond_3 rfl ?_
  refine mf_cVi (rest := []) [.ref 1, .ref 4, .int a1] (hX7_readAll a1) mY_X7_readAll dX7_readCond_4 ml_X7_59 (se_o (w_se hq se135)) rfl rfl (Nat.le_of_ble_eq_true rfl) rfl (fun v1 => ?_)
  refine mf_if_ne (tgt := 12) dX7_readCond_7 (by decide) ?_ ?_
  · refine mf_iconst (v := 0) dX7_readCond_12 rfl ?_
    refine mf_istore [(4, .int 0), (0, .ref 135), (1, .ref 1), (2, .ref 4), (3, .int a1)] dX7_readCond_13 (Nat.le_of_ble_eq_true rfl) rfl ?_
    refine mf_sub [1, 2, 3, 4, 0] rfl ?_
    refine mf_lz1 (lv := fun x2 => [(0, .ref 135), (1, .ref 1), (2, .ref 4), (3, .int a1), (4, .int x2)]) (fun L15 h15 x2 => ?_) _ _
    show MF rI (yX7_readCond.cls, cX7_readCond, 5, (some .boolean), yX7_readCond.name, d + 7, 0, 0) 15 [(0, .ref 135), (1, .ref 1), (2, .ref 4), (3, .int a1), (4, .int x2)] [] q _
    refine mf_iload 4 dX7_readCond_15 rfl ?_
    refine mf_bipush (v := 20) dX7_readCond_17 (by decide) ?_
    refine mf_icmp_ge (tgt := 61) dX7_readCond_19 (by decide) ?_ ?_
    · refine mf_iconst (v := 1) dX7_readCond_61 rfl ?_
      exact mf_ireturn dX7_readCond_62 rfl rfl ⟨rfl, rfl⟩
    · refine mf_aload_n 1 dX7_readCond_22 rfl ?_
      refine mf_geti 10 8 dX7_readCond_23 fl_X7_62 (by decide) (by decide) rfl (tx_o (w_tx hq)) (fun v3 => ?_)
      refine mf_bipush (v := 21) dX7_readCond_26 (by decide) ?_
      refine mf_icmp_ne (tgt := 61) dX7_readCond_28 (by decide) ?_ ?_
      · refine mf_iconst (v := 1) dX7_readCond_61 rfl ?_
        exact mf_ireturn dX7_readCond_62 rfl rfl ⟨rfl, rfl⟩
      · refine mf_aload_n 1 dX7_readCond_31 rfl ?_
        refine mf_cVv (rest := []) [] (aX10_next (d + 3) q hq) mY_X10_next dX7_readCond_32 ml_X7_45 (tx_o (w_tx hq)) rfl rfl (Nat.le_of_ble_eq_true rfl) rfl (fun _ => ?_)
        refine mf_aload_n 0 dX7_readCond_35 rfl ?_
        refine mf_aload_n 1 dX7_readCond_36 rfl ?_
        refine mf_aload_n 2 dX7_readCond_37 rfl ?_
        refine mf_iload_n 3 dX7_readCond_38 rfl ?_
        refine mf_cVi (rest := []) [.ref 1, .ref 4, .int a1] (hX7_readAll a1) mY_X7_readAll dX7_readCond_39 ml_X7_59 (se_o (w_se hq se135)) rfl rfl (Nat.le_of_ble_eq_true rfl) rfl (fun v4 => ?_)
        refine mf_if_ne (tgt := 47) dX7_readCond_42 (by decide) ?_ ?_
        · refine mf_aload_n 0 dX7_readCond_47 rfl ?_
          refine mf_bipush (v := 21) dX7_readCond_48 (by decide) ?_
          refine mf_iconst (v := 0) dX7_readCond_50 rfl ?_
          refine mf_iconst (v := 0) dX7_readCond_51 rfl ?_
          refine mf_cVv (rest := []) [.int 21, .int 0, .int 0] (aX7_addStep (d + 5) q hq 21 0 0) mY_X7_addStep dX7_readCond_52 ml_X7_65 (se_o (w_se hq se135)) rfl rfl (Nat.le_of_ble_eq_true rfl) rfl (fun _ => ?_)
          refine mf_iinc 4 (x2 + 1) [(4, .int (x2 + 1)), (0, .ref 135), (1, .ref 1), (2, .ref 4), (3, .int a1)] dX7_readCond_55 rfl rfl (Nat.le_of_ble_eq_true rfl) rfl ?_
          refine mf_goto (tgt := 15) dX7_readCond_58 (by decide) ?_
          refine mf_sub [1, 2, 3, 4, 0] rfl ?_
          exact h15 _
        · refine mf_iconst (v := 0) dX7_readCond_45 rfl ?_
          exact mf_ireturn dX7_readCond_46 rfl rfl ⟨rfl, rfl⟩
  · refine mf_iconst (v := 0) dX7_readCond_10 rfl ?_
    exact mf_ireturn dX7_readCond_11 rfl rfl ⟨rfl, rfl⟩
theorem aSc (d : Nat) (q : m_S) (hq : isW q) : ∀ n : Nat, (∀ w, AC rI yX7_readCond cX7_readCond 5 (some .boolean) (d + n + 6) [.ref 135, .ref 1, .ref 4, .int w] q (fS n 0 w)) ∧ (∀ w, AC rI yX7_readAll cX7_readAll 5 (some .boolean) (d + n + 6) [.ref 135, .ref 1, .ref 4, .int w] q (fS n 1 w)) ∧ ∀ w, AC rI yX7_readOne cX7_readOne 6 (some .boolean) (d + n + 6) [.ref 135, .ref 1, .ref 4, .int w] q (fS n 2 w) := by
  intro n
  induction n with
  | zero => exact ⟨fun w X r X' e => absurd e (by simp [fS]), fun w X r X' e => absurd e (by simp [fS]), fun w X r X' e => absurd e (by simp [fS])⟩
  | succ n ih => exact ⟨fun w => bX7_readCond (d + n) q hq _ ih.2.1 w, fun w => bX7_readAll (d + n) q hq _ ih.2.2 w, fun w => bX7_readOne (d + n) q hq _ _ ih.1 ih.2.2 w⟩
theorem aX7_readCond (d : Nat) (q : m_S) (hq : isW q) (a1 : Int32) : AC rI yX7_readCond cX7_readCond 5 (some .boolean) (d + 36) [.ref 135, .ref 1, .ref 4, .int a1] q (fX7_readCond a1) := (aSc d q hq 30).1 a1
