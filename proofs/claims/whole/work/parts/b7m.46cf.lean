set_option maxRecDepth 100000 in
set_option maxHeartbeats 4000000 in
theorem aX11_route (d : Nat) (q : m_S) (hq : isW q) (a1 : Int32) (a2 : Int32) : AC rI yX11_route cX11_route 3 (some .int) (d + 2) [.ref 0, .int a1, .int a2] q (fX11_route a1 a2) := by
  refine ac_of (by decide +kernel) (Nat.le_of_ble_eq_true rfl) ?_
  unfold fX11_route
  show MF rI (yX11_route.cls, cX11_route, 3, (some .int), yX11_route.name, d + 2, 0, 0) 0 [(0, .ref 0), (1, .int a1), (2, .int a2)] [] q _
  refine mf_aload_n 0 dX11_route_0 rfl ?_
  refine mf_getr 11 1 dX11_route_1 fl_X11_19 (by decide) (by decide) rfl (lf_o (w_lf hq)) (lf_r1 (w_lf hq)) (by decide) ?_
  refine mf_iconst (v := 4) dX11_route_4 rfl ?_
  refine mf_iload_n 1 dX11_route_5 rfl ?_
  refine mf_cVi (rest := []) [.int 4, .int a1] (aX5_has (d + 0) q hq 4 4 a1 pl4) mY_X5_has dX11_route_6 ml_X11_134 (pl_o (w_pl hq pl4)) rfl rfl (Nat.le_of_ble_eq_true rfl) rfl (fun v1 => ?_)
  refine mf_if_ne (tgt := 14) dX11_route_9 (by decide) ?_ ?_
  · refine mf_iload_n 2 dX11_route_14 rfl ?_
    refine mf_case (v := 0) (tgt := 64) (off := 49) dX11_route_15 (by decide) (by decide) (by decide) (by decide) ?_ (fun t15_0 => ?_)
    · refine mf_aload_n 0 dX11_route_64 rfl ?_
      refine mf_getr 11 1 dX11_route_65 fl_X11_19 (by decide) (by decide) rfl (lf_o (w_lf hq)) (lf_r1 (w_lf hq)) (by decide) ?_
      refine mf_getr 5 10 dX11_route_68 fl_X11_181 (by decide) (by decide) rfl (pl_o (w_pl hq pl4)) (pl_r10 (w_pl hq pl4)) (by decide) ?_
      refine mf_iload_n 1 dX11_route_71 rfl ?_
      refine mf_iald dX11_route_72 (pl_a10 (w_pl hq pl4)) (fun v2 => ?_)
      exact mf_ireturn dX11_route_73 rfl rfl ⟨rfl, rfl⟩
    refine mf_case (v := 1) (tgt := 74) (off := 59) dX11_route_15 (by decide) (by decide) (by decide) (by decide) ?_ (fun t15_1 => ?_)
    · refine mf_aload_n 0 dX11_route_74 rfl ?_
      refine mf_getr 11 3 dX11_route_75 fl_X11_35 (by decide) (by decide) rfl (lf_o (w_lf hq)) (lf_r3 (w_lf hq)) (by decide) ?_
      refine mf_getr 8 8 dX11_route_78 fl_X11_184 (by decide) (by decide) rfl (sa_o (w_st hq st47)) (sa_r8 (w_st hq st47)) (by decide) ?_
      refine mf_iload_n 1 dX11_route_81 rfl ?_
      refine mf_iald dX11_route_82 (sa_a8 (w_st hq st47)) (fun v3 => ?_)
      exact mf_ireturn dX11_route_83 rfl rfl ⟨rfl, rfl⟩
    refine mf_case (v := 2) (tgt := 84) (off := 69) dX11_route_15 (by decide) (by decide) (by decide) (by decide) ?_ (fun t15_2 => ?_)
    · refine mf_aload_n 0 dX11_route_84 rfl ?_
      refine mf_getr 11 1 dX11_route_85 fl_X11_19 (by decide) (by decide) rfl (lf_o (w_lf hq)) (lf_r1 (w_lf hq)) (by decide) ?_
      refine mf_getr 5 11 dX11_route_88 fl_X11_187 (by decide) (by decide) rfl (pl_o (w_pl hq pl4)) (pl_r11 (w_pl hq pl4)) (by decide) ?_
      refine mf_iload_n 1 dX11_route_91 rfl ?_
      refine mf_iald dX11_route_92 (pl_a11 (w_pl hq pl4)) (fun v4 => ?_)
      exact mf_ireturn dX11_route_93 rfl rfl ⟨rfl, rfl⟩
    refine mf_case (v := 3) (tgt := 94) (off := 79) dX11_route_15 (by decide) (by decide) (by decide) (by decide) ?_ (fun t15_3 => ?_)
    · refine mf_aload_n 0 dX11_route_94 rfl ?_
      refine mf_getr 11 1 dX11_route_95 fl_X11_19 (by decide) (by decide) rfl (lf_o (w_lf hq)) (lf_r1 (w_lf hq)) (by decide) ?_
      refine mf_getr 5 16 dX11_route_98 fl_X11_190 (by decide) (by decide) rfl (pl_o (w_pl hq pl4)) (pl_r16 (w_pl hq pl4)) (by decide) ?_
      refine mf_iload_n 1 dX11_route_101 rfl ?_
      refine mf_iald dX11_route_102 (pl_a16 (w_pl hq pl4)) (fun v5 => ?_)
      exact mf_ireturn dX11_route_103 rfl rfl ⟨rfl, rfl⟩
    refine mf_case (v := 4) (tgt := 104) (off := 89) dX11_route_15 (by decide) (by decide) (by decide) (by decide) ?_ (fun t15_4 => ?_)
    · refine mf_aload_n 0 dX11_route_104 rfl ?_
      refine mf_getr 11 1 dX11_route_105 fl_X11_19 (by decide) (by decide) rfl (lf_o (w_lf hq)) (lf_r1 (w_lf hq)) (by decide) ?_
      refine mf_getr 5 17 dX11_route_108 fl_X11_193 (by decide) (by decide) rfl (pl_o (w_pl hq pl4)) (pl_r17 (w_pl hq pl4)) (by decide) ?_
      refine mf_iload_n 1 dX11_route_111 rfl ?_
      refine mf_iald dX11_route_112 (pl_a17 (w_pl hq pl4)) (fun v6 => ?_)
      exact mf_ireturn dX11_route_113 rfl rfl ⟨rfl, rfl⟩
    refine mf_case (v := 5) (tgt := 114) (off := 99) dX11_route_15 (by decide) (by decide) (by decide) (by decide) ?_ (fun t15_5 => ?_)
    · refine mf_aload_n 0 dX11_route_114 rfl ?_
      refine mf_getr 11 1 dX11_route_115 fl_X11_19 (by decide) (by decide) rfl (lf_o (w_lf hq)) (lf_r1 (w_lf hq)) (by decide) ?_
      refine mf_getr 5 14 dX11_route_118 fl_X11_196 (by decide) (by decide) rfl (pl_o (w_pl hq pl4)) (pl_r14 (w_pl hq pl4)) (by decide) ?_
      refine mf_iload_n 1 dX11_route_121 rfl ?_
      refine mf_iald dX11_route_122 (pl_a14 (w_pl hq pl4)) (fun v7 => ?_)
      exact mf_ireturn dX11_route_123 rfl rfl ⟨rfl, rfl⟩
    refine mf_case (v := 6) (tgt := 124) (off := 109) dX11_route_15 (by decide) (by decide) (by decide) (by decide) ?_ (fun t15_6 => ?_)
    · refine mf_aload_n 0 dX11_route_124 rfl ?_
      refine mf_getr 11 1 dX11_route_125 fl_X11_19 (by decide) (by decide) rfl (lf_o (w_lf hq)) (lf_r1 (w_lf hq)) (by decide) ?_
      refine mf_getr 5 15 dX11_route_128 fl_X11_199 (by decide) (by decide) rfl (pl_o (w_pl hq pl4)) (pl_r15 (w_pl hq pl4)) (by decide) ?_
      refine mf_iload_n 1 dX11_route_131 rfl ?_
      refine mf_iald dX11_route_132 (pl_a15 (w_pl hq pl4)) (fun v8 => ?_)
      exact mf_ireturn dX11_route_133 rfl rfl ⟨rfl, rfl⟩
    refine mf_case (v := 7) (tgt := 134) (off := 119) dX11_route_15 (by decide) (by decide) (by decide) (by decide) ?_ (fun t15_7 => ?_)
    · refine mf_aload_n 0 dX11_route_134 rfl ?_
      refine mf_getr 11 3 dX11_route_135 fl_X11_35 (by decide) (by decide) rfl (lf_o (w_lf hq)) (lf_r3 (w_lf hq)) (by decide) ?_
      refine mf_getr 8 8 dX11_route_138 fl_X11_184 (by decide) (by decide) rfl (sa_o (w_st hq st47)) (sa_r8 (w_st hq st47)) (by decide) ?_
      refine mf_iload_n 1 dX11_route_141 rfl ?_
      refine mf_iald dX11_route_142 (sa_a8 (w_st hq st47)) (fun v9 => ?_)
      refine mf_iconst (v := 3) dX11_route_143 rfl ?_
      refine mf_icmp_ne (tgt := 159) dX11_route_144 (by decide) ?_ ?_
      · refine mf_iconst (v := 0) dX11_route_159 rfl ?_
        exact mf_ireturn dX11_route_160 rfl rfl ⟨rfl, rfl⟩
      · refine mf_aload_n 0 dX11_route_147 rfl ?_
        refine mf_getr 11 3 dX11_route_148 fl_X11_35 (by decide) (by decide) rfl (lf_o (w_lf hq)) (lf_r3 (w_lf hq)) (by decide) ?_
        refine mf_getr 8 9 dX11_route_151 fl_X11_202 (by decide) (by decide) rfl (sa_o (w_st hq st47)) (sa_r9 (w_st hq st47)) (by decide) ?_
        refine mf_iload_n 1 dX11_route_154 rfl ?_
        refine mf_iald dX11_route_155 (sa_a9 (w_st hq st47)) (fun v10 => ?_)
        refine mf_goto (tgt := 160) dX11_route_156 (by decide) ?_
        exact mf_ireturn dX11_route_160 rfl rfl ⟨rfl, rfl⟩
    refine mf_case (v := 8) (tgt := 161) (off := 146) dX11_route_15 (by decide) (by decide) (by decide) (by decide) ?_ (fun t15_8 => ?_)
    · refine mf_aload_n 0 dX11_route_161 rfl ?_
      refine mf_getr 11 3 dX11_route_162 fl_X11_35 (by decide) (by decide) rfl (lf_o (w_lf hq)) (lf_r3 (w_lf hq)) (by decide) ?_
      refine mf_getr 8 8 dX11_route_165 fl_X11_184 (by decide) (by decide) rfl (sa_o (w_st hq st47)) (sa_r8 (w_st hq st47)) (by decide) ?_
      refine mf_iload_n 1 dX11_route_168 rfl ?_
      refine mf_iald dX11_route_169 (sa_a8 (w_st hq st47)) (fun v11 => ?_)
      refine mf_iconst (v := 2) dX11_route_170 rfl ?_
      refine mf_icmp_ne (tgt := 186) dX11_route_171 (by decide) ?_ ?_
      · refine mf_iconst (v := -1) dX11_route_186 rfl ?_
        exact mf_ireturn dX11_route_187 rfl rfl ⟨rfl, rfl⟩
      · refine mf_aload_n 0 dX11_route_174 rfl ?_
        refine mf_getr 11 3 dX11_route_175 fl_X11_35 (by decide) (by decide) rfl (lf_o (w_lf hq)) (lf_r3 (w_lf hq)) (by decide) ?_
        refine mf_getr 8 10 dX11_route_178 fl_X11_205 (by decide) (by decide) rfl (sa_o (w_st hq st47)) (sa_r10 (w_st hq st47)) (by decide) ?_
        refine mf_iload_n 1 dX11_route_181 rfl ?_
        refine mf_iald dX11_route_182 (sa_a10 (w_st hq st47)) (fun v12 => ?_)
        refine mf_goto (tgt := 187) dX11_route_183 (by decide) ?_
        exact mf_ireturn dX11_route_187 rfl rfl ⟨rfl, rfl⟩
    refine mf_dflt (tgt := 188) dX11_route_15 (by have := lv_neT t15_0 (a := 0) (by decide); have := lv_neT t15_1 (a := 1) (by decide); have := lv_neT t15_2 (a := 2) (by decide); have := lv_neT t15_3 (a := 3) (by decide); have := lv_neT t15_4 (a := 4) (by decide); have := lv_neT t15_5 (a := 5) (by decide); have := lv_neT t15_6 (a := 6) (by decide); have := lv_neT t15_7 (a := 7) (by decide); have := lv_neT t15_8 (a := 8) (by decide); omega) (by decide) ?_
    refine mf_iconst (v := -1) dX11_route_188 rfl ?_
    exact mf_ireturn dX11_route_189 rfl rfl ⟨rfl, rfl⟩
  · refine mf_iconst (v := -1) dX11_route_12 rfl ?_
    exact mf_ireturn dX11_route_13 rfl rfl ⟨rfl, rfl⟩
set_option maxRecDepth 100000 in
set_option maxHeartbeats 4000000 in
theorem aX11_over (d : Nat) (q : m_S) (hq : isW q) (a1 : Int32) (a2 : Int32) : AC rI yX11_over cX11_over 3 (some .int) (d + 2) [.ref 0, .int a1, .int a2] q (fX11_over a1 a2) := by
  refine ac_of (by decide +kernel) (Nat.le_of_ble_eq_true rfl) ?_
  unfold fX11_over
  show MF rI (yX11_over.cls, cX11_over, 3, (some .int), yX11_over.name, d + 2, 0, 0) 0 [(0, .ref 0), (1, .int a1), (2, .int a2)] [] q _
  refine mf_aload_n 0 dX11_over_0 rfl ?_
  refine mf_getr 11 1 dX11_over_1 fl_X11_19 (by decide) (by decide) rfl (lf_o (w_lf hq)) (lf_r1 (w_lf hq)) (by decide) ?_
  refine mf_iconst (v := 4) dX11_over_4 rfl ?_
  refine mf_iload_n 1 dX11_over_5 rfl ?_
  refine mf_cVi (rest := []) [.int 4, .int a1] (aX5_has (d + 0) q hq 4 4 a1 pl4) mY_X5_has dX11_over_6 ml_X11_134 (pl_o (w_pl hq pl4)) rfl rfl (Nat.le_of_ble_eq_true rfl) rfl (fun v1 => ?_)
  refine mf_if_eq (tgt := 29) dX11_over_9 (by decide) ?_ ?_
  · refine mf_iconst (v := -1) dX11_over_29 rfl ?_
    exact mf_ireturn dX11_over_30 rfl rfl ⟨rfl, rfl⟩
  · refine mf_iload_n 2 dX11_over_12 rfl ?_
    refine mf_if_lt (tgt := 29) dX11_over_13 (by decide) ?_ ?_
    · refine mf_iconst (v := -1) dX11_over_29 rfl ?_
      exact mf_ireturn dX11_over_30 rfl rfl ⟨rfl, rfl⟩
    · refine mf_iload_n 2 dX11_over_16 rfl ?_
      refine mf_aload_n 0 dX11_over_17 rfl ?_
      refine mf_getr 11 1 dX11_over_18 fl_X11_19 (by decide) (by decide) rfl (lf_o (w_lf hq)) (lf_r1 (w_lf hq)) (by decide) ?_
      refine mf_getr 5 11 dX11_over_21 fl_X11_187 (by decide) (by decide) rfl (pl_o (w_pl hq pl4)) (pl_r11 (w_pl hq pl4)) (by decide) ?_
      refine mf_iload_n 1 dX11_over_24 rfl ?_
      refine mf_iald dX11_over_25 (pl_a11 (w_pl hq pl4)) (fun v2 => ?_)
      refine mf_icmp_lt (tgt := 31) dX11_over_26 (by decide) ?_ ?_
      · refine mf_aload_n 0 dX11_over_31 rfl ?_
        refine mf_getr 11 1 dX11_over_32 fl_X11_19 (by decide) (by decide) rfl (lf_o (w_lf hq)) (lf_r1 (w_lf hq)) (by decide) ?_
        refine mf_iload_n 1 dX11_over_35 rfl ?_
        refine mf_iload_n 2 dX11_over_36 rfl ?_
        refine mf_cVi (rest := []) [.int a1, .int a2] (aX5_sectionOf (d + 0) q hq 4 a1 a2 pl4) mY_X5_sectionOf dX11_over_37 ml_X11_208 (pl_o (w_pl hq pl4)) rfl rfl (Nat.le_of_ble_eq_true rfl) rfl (fun v3 => ?_)
        exact mf_ireturn dX11_over_40 rfl rfl ⟨rfl, rfl⟩
      · refine mf_iconst (v := -1) dX11_over_29 rfl ?_
        exact mf_ireturn dX11_over_30 rfl rfl ⟨rfl, rfl⟩
set_option maxRecDepth 100000 in
set_option maxHeartbeats 4000000 in
theorem aX11_train (d : Nat) (q : m_S) (hq : isW q) (a1 : Int32) (a2 : Int32) : AC rI yX11_train cX11_train 3 (some .int) (d + 2) [.ref 0, .int a1, .int a2] q (fX11_train a1 a2) := by
  refine ac_of (by decide +kernel) (Nat.le_of_ble_eq_true rfl) ?_
  unfold fX11_train
  show MF rI (yX11_train.cls, cX11_train, 3, (some .int), yX11_train.name, d + 2, 0, 0) 0 [(0, .ref 0), (1, .int a1), (2, .int a2)] [] q _
  refine mf_aload_n 0 dX11_train_0 rfl ?_
  refine mf_getr 11 1 dX11_train_1 fl_X11_19 (by decide) (by decide) rfl (lf_o (w_lf hq)) (lf_r1 (w_lf hq)) (by decide) ?_
  refine mf_bipush (v := 6) dX11_train_4 (by decide) ?_
  refine mf_iload_n 1 dX11_train_6 rfl ?_
  refine mf_cVi (rest := []) [.int 6, .int a1] (aX5_has (d + 0) q hq 4 6 a1 pl4) mY_X5_has dX11_train_7 ml_X11_134 (pl_o (w_pl hq pl4)) rfl rfl (Nat.le_of_ble_eq_true rfl) rfl (fun v1 => ?_)
  refine mf_if_ne (tgt := 23) dX11_train_10 (by decide) ?_ ?_
  · refine mf_iload_n 2 dX11_train_23 rfl ?_
    refine mf_case (v := 0) (tgt := 68) (off := 44) dX11_train_24 (by decide) (by decide) (by decide) (by decide) ?_ (fun t24_0 => ?_)
    · refine mf_aload_n 0 dX11_train_68 rfl ?_
      refine mf_getr 11 3 dX11_train_69 fl_X11_35 (by decide) (by decide) rfl (lf_o (w_lf hq)) (lf_r3 (w_lf hq)) (by decide) ?_
      refine mf_getr 8 11 dX11_train_72 fl_X11_218 (by decide) (by decide) rfl (sa_o (w_st hq st47)) (sa_r11 (w_st hq st47)) (by decide) ?_
      refine mf_iload_n 1 dX11_train_75 rfl ?_
      refine mf_iald dX11_train_76 (sa_a11 (w_st hq st47)) (fun v2 => ?_)
      exact mf_ireturn dX11_train_77 rfl rfl ⟨rfl, rfl⟩
    refine mf_case (v := 1) (tgt := 78) (off := 54) dX11_train_24 (by decide) (by decide) (by decide) (by decide) ?_ (fun t24_1 => ?_)
    · refine mf_aload_n 0 dX11_train_78 rfl ?_
      refine mf_getr 11 1 dX11_train_79 fl_X11_19 (by decide) (by decide) rfl (lf_o (w_lf hq)) (lf_r1 (w_lf hq)) (by decide) ?_
      refine mf_getr 5 19 dX11_train_82 fl_X11_221 (by decide) (by decide) rfl (pl_o (w_pl hq pl4)) (pl_r19 (w_pl hq pl4)) (by decide) ?_
      refine mf_iload_n 1 dX11_train_85 rfl ?_
      refine mf_iald dX11_train_86 (pl_a19 (w_pl hq pl4)) (fun v3 => ?_)
      exact mf_ireturn dX11_train_87 rfl rfl ⟨rfl, rfl⟩
    refine mf_case (v := 2) (tgt := 88) (off := 64) dX11_train_24 (by decide) (by decide) (by decide) (by decide) ?_ (fun t24_2 => ?_)
    · refine mf_aload_n 0 dX11_train_88 rfl ?_
      refine mf_getr 11 3 dX11_train_89 fl_X11_35 (by decide) (by decide) rfl (lf_o (w_lf hq)) (lf_r3 (w_lf hq)) (by decide) ?_
      refine mf_getr 8 12 dX11_train_92 fl_X11_224 (by decide) (by decide) rfl (sa_o (w_st hq st47)) (sa_r12 (w_st hq st47)) (by decide) ?_
      refine mf_iload_n 1 dX11_train_95 rfl ?_
      refine mf_iald dX11_train_96 (sa_a12 (w_st hq st47)) (fun v4 => ?_)
      exact mf_ireturn dX11_train_97 rfl rfl ⟨rfl, rfl⟩
    refine mf_case (v := 3) (tgt := 98) (off := 74) dX11_train_24 (by decide) (by decide) (by decide) (by decide) ?_ (fun t24_3 => ?_)
    · refine mf_aload_n 0 dX11_train_98 rfl ?_
      refine mf_getr 11 3 dX11_train_99 fl_X11_35 (by decide) (by decide) rfl (lf_o (w_lf hq)) (lf_r3 (w_lf hq)) (by decide) ?_
      refine mf_geti 8 6 dX11_train_102 fl_X11_227 (by decide) (by decide) rfl (sa_o (w_st hq st47)) (fun v5 => ?_)
      refine mf_iload_n 1 dX11_train_105 rfl ?_
      refine mf_ishr dX11_train_106 ?_
      refine mf_iconst (v := 1) dX11_train_107 rfl ?_
      refine mf_iand dX11_train_108 ?_
      exact mf_ireturn dX11_train_109 rfl rfl ⟨rfl, rfl⟩
    refine mf_case (v := 4) (tgt := 110) (off := 86) dX11_train_24 (by decide) (by decide) (by decide) (by decide) ?_ (fun t24_4 => ?_)
    · refine mf_aload_n 0 dX11_train_110 rfl ?_
      refine mf_getr 11 3 dX11_train_111 fl_X11_35 (by decide) (by decide) rfl (lf_o (w_lf hq)) (lf_r3 (w_lf hq)) (by decide) ?_
      refine mf_geti 8 7 dX11_train_114 fl_X11_230 (by decide) (by decide) rfl (sa_o (w_st hq st47)) (fun v6 => ?_)
      refine mf_iload_n 1 dX11_train_117 rfl ?_
      refine mf_ishr dX11_train_118 ?_
      refine mf_iconst (v := 1) dX11_train_119 rfl ?_
      refine mf_iand dX11_train_120 ?_
      exact mf_ireturn dX11_train_121 rfl rfl ⟨rfl, rfl⟩
    refine mf_case (v := 5) (tgt := 122) (off := 98) dX11_train_24 (by decide) (by decide) (by decide) (by decide) ?_ (fun t24_5 => ?_)
    · refine mf_aload_n 0 dX11_train_122 rfl ?_
      refine mf_getr 11 3 dX11_train_123 fl_X11_35 (by decide) (by decide) rfl (lf_o (w_lf hq)) (lf_r3 (w_lf hq)) (by decide) ?_
      refine mf_getr 8 13 dX11_train_126 fl_X11_233 (by decide) (by decide) rfl (sa_o (w_st hq st47)) (sa_r13 (w_st hq st47)) (by decide) ?_
      refine mf_iload_n 1 dX11_train_129 rfl ?_
      refine mf_iald dX11_train_130 (sa_a13 (w_st hq st47)) (fun v7 => ?_)
      exact mf_ireturn dX11_train_131 rfl rfl ⟨rfl, rfl⟩
    refine mf_case (v := 6) (tgt := 132) (off := 108) dX11_train_24 (by decide) (by decide) (by decide) (by decide) ?_ (fun t24_6 => ?_)
    · refine mf_aload_n 0 dX11_train_132 rfl ?_
      refine mf_getr 11 3 dX11_train_133 fl_X11_35 (by decide) (by decide) rfl (lf_o (w_lf hq)) (lf_r3 (w_lf hq)) (by decide) ?_
      refine mf_iload_n 1 dX11_train_136 rfl ?_
      refine mf_cVi (rest := []) [.int a1] (aX8_routesUsedBy (d + 0) q hq 47 a1 st47) mY_X8_routesUsedBy dX11_train_137 ml_X11_236 (sa_o (w_st hq st47)) rfl rfl (Nat.le_of_ble_eq_true rfl) rfl (fun v8 => ?_)
      exact mf_ireturn dX11_train_140 rfl rfl ⟨rfl, rfl⟩
    refine mf_dflt (tgt := 141) dX11_train_24 (by have := lv_neT t24_0 (a := 0) (by decide); have := lv_neT t24_1 (a := 1) (by decide); have := lv_neT t24_2 (a := 2) (by decide); have := lv_neT t24_3 (a := 3) (by decide); have := lv_neT t24_4 (a := 4) (by decide); have := lv_neT t24_5 (a := 5) (by decide); have := lv_neT t24_6 (a := 6) (by decide); omega) (by decide) ?_
    exact mf_th
  · exact mf_th
set_option maxRecDepth 100000 in
set_option maxHeartbeats 4000000 in
theorem aX11_now (d : Nat) (q : m_S) (hq : isW q) (a1 : Int32) : AC rI yX11_now cX11_now 2 (some .int) (d + 3) [.ref 0, .int a1] q (fX11_now a1) := by
  refine ac_of (by decide +kernel) (Nat.le_of_ble_eq_true rfl) ?_
  unfold fX11_now
  show MF rI (yX11_now.cls, cX11_now, 2, (some .int), yX11_now.name, d + 3, 0, 0) 0 [(0, .ref 0), (1, .int a1)] [] q _
  refine mf_iload_n 1 dX11_now_0 rfl ?_
  refine mf_case (v := 0) (tgt := 44) (off := 43) dX11_now_1 (by decide) (by decide) (by decide) (by decide) ?_ (fun t1_0 => ?_)
  · refine mf_aload_n 0 dX11_now_44 rfl ?_
    refine mf_getr 11 3 dX11_now_45 fl_X11_35 (by decide) (by decide) rfl (lf_o (w_lf hq)) (lf_r3 (w_lf hq)) (by decide) ?_
    refine mf_geti 8 1 dX11_now_48 fl_X11_241 (by decide) (by decide) rfl (sa_o (w_st hq st47)) (fun v1 => ?_)
    exact mf_ireturn dX11_now_51 rfl rfl ⟨rfl, rfl⟩
  refine mf_case (v := 1) (tgt := 52) (off := 51) dX11_now_1 (by decide) (by decide) (by decide) (by decide) ?_ (fun t1_1 => ?_)
  · refine mf_aload_n 0 dX11_now_52 rfl ?_
    refine mf_getr 11 3 dX11_now_53 fl_X11_35 (by decide) (by decide) rfl (lf_o (w_lf hq)) (lf_r3 (w_lf hq)) (by decide) ?_
    refine mf_cVi (rest := []) [] (aX8_showing (d + 0) q hq 47 st47) mY_X8_showing dX11_now_56 ml_X11_146 (sa_o (w_st hq st47)) rfl rfl (Nat.le_of_ble_eq_true rfl) rfl (fun v2 => ?_)
    exact mf_ireturn dX11_now_59 rfl rfl ⟨rfl, rfl⟩
  refine mf_case (v := 2) (tgt := 60) (off := 59) dX11_now_1 (by decide) (by decide) (by decide) (by decide) ?_ (fun t1_2 => ?_)
  · refine mf_aload_n 0 dX11_now_60 rfl ?_
    refine mf_getr 11 3 dX11_now_61 fl_X11_35 (by decide) (by decide) rfl (lf_o (w_lf hq)) (lf_r3 (w_lf hq)) (by decide) ?_
    refine mf_cVi (rest := []) [] (aX8_notFree (d + 1) q hq 47 st47) mY_X8_notFree dX11_now_64 ml_X11_244 (sa_o (w_st hq st47)) rfl rfl (Nat.le_of_ble_eq_true rfl) rfl (fun v3 => ?_)
    exact mf_ireturn dX11_now_67 rfl rfl ⟨rfl, rfl⟩
  refine mf_case (v := 3) (tgt := 68) (off := 67) dX11_now_1 (by decide) (by decide) (by decide) (by decide) ?_ (fun t1_3 => ?_)
  · refine mf_aload_n 0 dX11_now_68 rfl ?_
    refine mf_getr 11 3 dX11_now_69 fl_X11_35 (by decide) (by decide) rfl (lf_o (w_lf hq)) (lf_r3 (w_lf hq)) (by decide) ?_
    refine mf_geti 8 3 dX11_now_72 fl_X11_163 (by decide) (by decide) rfl (sa_o (w_st hq st47)) (fun v4 => ?_)
    exact mf_ireturn dX11_now_75 rfl rfl ⟨rfl, rfl⟩
  refine mf_case (v := 4) (tgt := 76) (off := 75) dX11_now_1 (by decide) (by decide) (by decide) (by decide) ?_ (fun t1_4 => ?_)
  · refine mf_aload_n 0 dX11_now_76 rfl ?_
    refine mf_getr 11 3 dX11_now_77 fl_X11_35 (by decide) (by decide) rfl (lf_o (w_lf hq)) (lf_r3 (w_lf hq)) (by decide) ?_
    refine mf_cVi (rest := []) [] (aX8_trainsOut (d + 1) q hq 47 st47) mY_X8_trainsOut dX11_now_80 ml_X11_247 (sa_o (w_st hq st47)) rfl rfl (Nat.le_of_ble_eq_true rfl) rfl (fun v5 => ?_)
    exact mf_ireturn dX11_now_83 rfl rfl ⟨rfl, rfl⟩
  refine mf_case (v := 5) (tgt := 84) (off := 83) dX11_now_1 (by decide) (by decide) (by decide) (by decide) ?_ (fun t1_5 => ?_)
  · refine mf_aload_n 0 dX11_now_84 rfl ?_
    refine mf_getr 11 3 dX11_now_85 fl_X11_35 (by decide) (by decide) rfl (lf_o (w_lf hq)) (lf_r3 (w_lf hq)) (by decide) ?_
    refine mf_geti 8 6 dX11_now_88 fl_X11_227 (by decide) (by decide) rfl (sa_o (w_st hq st47)) (fun v6 => ?_)
    exact mf_ireturn dX11_now_91 rfl rfl ⟨rfl, rfl⟩
  refine mf_case (v := 6) (tgt := 92) (off := 91) dX11_now_1 (by decide) (by decide) (by decide) (by decide) ?_ (fun t1_6 => ?_)
  · refine mf_aload_n 0 dX11_now_92 rfl ?_
    refine mf_getr 11 3 dX11_now_93 fl_X11_35 (by decide) (by decide) rfl (lf_o (w_lf hq)) (lf_r3 (w_lf hq)) (by decide) ?_
    refine mf_geti 8 2 dX11_now_96 fl_X11_250 (by decide) (by decide) rfl (sa_o (w_st hq st47)) (fun v7 => ?_)
    exact mf_ireturn dX11_now_99 rfl rfl ⟨rfl, rfl⟩
  refine mf_dflt (tgt := 100) dX11_now_1 (by have := lv_neT t1_0 (a := 0) (by decide); have := lv_neT t1_1 (a := 1) (by decide); have := lv_neT t1_2 (a := 2) (by decide); have := lv_neT t1_3 (a := 3) (by decide); have := lv_neT t1_4 (a := 4) (by decide); have := lv_neT t1_5 (a := 5) (by decide); have := lv_neT t1_6 (a := 6) (by decide); omega) (by decide) ?_
  refine mf_iconst (v := -1) dX11_now_100 rfl ?_
  exact mf_ireturn dX11_now_101 rfl rfl ⟨rfl, rfl⟩
set_option maxRecDepth 100000 in
set_option maxHeartbeats 4000000 in
theorem aX11_act (d : Nat) (q : m_S) (hq : isW q) (a1 : Int32) (a2 : Int32) (a3 : Int32) : AC rI yX11_act cX11_act 5 (some .int) (d + 6) [.ref 0, .int a1, .int a2, .int a3] q (fX11_act a1 a2 a3) := by
  refine ac_of (by decide +kernel) (Nat.le_of_ble_eq_true rfl) ?_
  unfold fX11_act
  show MF rI (yX11_act.cls, cX11_act, 5, (some .int), yX11_act.name, d + 6, 0, 0) 0 [(0, .ref 0), (1, .int a1), (2, .int a2), (3, .int a3)] [] q _
  refine mf_aload_n 0 dX11_act_0 rfl ?_
  refine mf_getr 11 1 dX11_act_1 fl_X11_19 (by decide) (by decide) rfl (lf_o (w_lf hq)) (lf_r1 (w_lf hq)) (by decide) ?_
  refine mf_iload_n 1 dX11_act_4 rfl ?_
  refine mf_cSi (rest := [.ref 4]) [.int a1] (aX11_sortOfAct (d + 4) q hq a1) mY_X11_sortOfAct dX11_act_5 ml_X11_381 rfl rfl (Nat.le_of_ble_eq_true rfl) rfl (fun v1 => ?_)
  refine mf_iload_n 2 dX11_act_8 rfl ?_
  refine mf_cVi (rest := []) [.int v1, .int a2] (aX5_has (d + 4) q hq 4 v1 a2 pl4) mY_X5_has dX11_act_9 ml_X11_134 (pl_o (w_pl hq pl4)) rfl rfl (Nat.le_of_ble_eq_true rfl) rfl (fun v2 => ?_)
  refine mf_if_ne (tgt := 17) dX11_act_12 (by decide) ?_ ?_
  · refine mf_aload_n 0 dX11_act_17 rfl ?_
    refine mf_getr 11 5 dX11_act_18 fl_X11_45 (by decide) (by decide) rfl (lf_o (w_lf hq)) (lf_r5 (w_lf hq)) (by decide) ?_
    refine mf_aload_n 0 dX11_act_21 rfl ?_
    refine mf_getr 11 3 dX11_act_22 fl_X11_35 (by decide) (by decide) rfl (lf_o (w_lf hq)) (lf_r3 (w_lf hq)) (by decide) ?_
    refine mf_cVv (rest := []) [.ref 47] (aX3_note (d + 2) q hq) mY_X3_note dX11_act_25 ml_X11_257 (hi_o (w_hi hq)) rfl rfl (Nat.le_of_ble_eq_true rfl) rfl (fun _ => ?_)
    refine mf_aload_n 0 dX11_act_28 rfl ?_
    refine mf_getr 11 3 dX11_act_29 fl_X11_35 (by decide) (by decide) rfl (lf_o (w_lf hq)) (lf_r3 (w_lf hq)) (by decide) ?_
    refine mf_iload_n 1 dX11_act_32 rfl ?_
    refine mf_iload_n 2 dX11_act_33 rfl ?_
    refine mf_iload_n 3 dX11_act_34 rfl ?_
    refine mf_cVi (rest := []) [.int a1, .int a2, .int a3] (aX8_perform (d + 0) q hq 47 a1 a2 a3 st47) mY_X8_perform dX11_act_35 ml_X11_384 (sa_o (w_st hq st47)) rfl rfl (Nat.le_of_ble_eq_true rfl) rfl (fun v3 => ?_)
    refine mf_istore [(4, .int v3), (0, .ref 0), (1, .int a1), (2, .int a2), (3, .int a3)] dX11_act_38 (Nat.le_of_ble_eq_true rfl) rfl ?_
    refine mf_iload 0 dX11_act_40 rfl ?_
    refine mf_if_ne (tgt := 52) dX11_act_42 (by decide) ?_ ?_
    · refine mf_iload 0 dX11_act_52 rfl ?_
      exact mf_ireturn dX11_act_54 rfl rfl ⟨rfl, rfl⟩
    · refine mf_aload_n 1 dX11_act_45 rfl ?_
      refine mf_getr 11 5 dX11_act_46 fl_X11_45 (by decide) (by decide) rfl (lf_o (w_lf hq)) (lf_r5 (w_lf hq)) (by decide) ?_
      refine mf_cVv (rest := []) [] (aX3_keepNoted (d + 4) q hq) mY_X3_keepNoted dX11_act_49 ml_X11_264 (hi_o (w_hi hq)) rfl rfl (Nat.le_of_ble_eq_true rfl) rfl (fun _ => ?_)
      refine mf_iload 0 dX11_act_52 rfl ?_
      exact mf_ireturn dX11_act_54 rfl rfl ⟨rfl, rfl⟩
  · refine mf_iconst (v := -1) dX11_act_15 rfl ?_
    exact mf_ireturn dX11_act_16 rfl rfl ⟨rfl, rfl⟩
set_option maxRecDepth 100000 in
set_option maxHeartbeats 4000000 in
theorem aX11_set (d : Nat) (q : m_S) (hq : isW q) (a1 : Int32) : AC rI yX11_set cX11_set 2 (some .int) (d + 7) [.ref 0, .int a1] q (fX11_set a1) := by
  refine ac_of (by decide +kernel) (Nat.le_of_ble_eq_true rfl) ?_
  unfold fX11_set
  show MF rI (yX11_set.cls, cX11_set, 2, (some .int), yX11_set.name, d + 7, 0, 0) 0 [(0, .ref 0), (1, .int a1)] [] q _
  refine mf_aload_n 0 dX11_set_0 rfl ?_
  refine mf_bipush (v := 13) dX11_set_1 (by decide) ?_
  refine mf_iload_n 1 dX11_set_3 rfl ?_
  refine mf_iconst (v := 0) dX11_set_4 rfl ?_
  refine mf_cVi (rest := []) [.int 13, .int a1, .int 0] (aX11_act (d + 0) q hq 13 a1 0) mY_X11_act dX11_set_5 ml_X11_253 (lf_o (w_lf hq)) rfl rfl (Nat.le_of_ble_eq_true rfl) rfl (fun v1 => ?_)
  exact mf_ireturn dX11_set_8 rfl rfl ⟨rfl, rfl⟩
set_option maxRecDepth 100000 in
set_option maxHeartbeats 4000000 in
theorem aX11_back (d : Nat) (q : m_S) (hq : isW q) (a1 : Int32) : AC rI yX11_back cX11_back 2 (some .int) (d + 7) [.ref 0, .int a1] q (fX11_back a1) := by
  refine ac_of (by decide +kernel) (Nat.le_of_ble_eq_true rfl) ?_
  unfold fX11_back
  show MF rI (yX11_back.cls, cX11_back, 2, (some .int), yX11_back.name, d + 7, 0, 0) 0 [(0, .ref 0), (1, .int a1)] [] q _
  refine mf_aload_n 0 dX11_back_0 rfl ?_
  refine mf_bipush (v := 14) dX11_back_1 (by decide) ?_
  refine mf_iload_n 1 dX11_back_3 rfl ?_
  refine mf_iconst (v := 0) dX11_back_4 rfl ?_
  refine mf_cVi (rest := []) [.int 14, .int a1, .int 0] (aX11_act (d + 0) q hq 14 a1 0) mY_X11_act dX11_back_5 ml_X11_253 (lf_o (w_lf hq)) rfl rfl (Nat.le_of_ble_eq_true rfl) rfl (fun v1 => ?_)
  exact mf_ireturn dX11_back_8 rfl rfl ⟨rfl, rfl⟩
set_option maxRecDepth 100000 in
set_option maxHeartbeats 4000000 in
theorem aX11_turn (d : Nat) (q : m_S) (hq : isW q) (a1 : Int32) : AC rI yX11_turn cX11_turn 2 (some .int) (d + 7) [.ref 0, .int a1] q (fX11_turn a1) := by
  refine ac_of (by decide +kernel) (Nat.le_of_ble_eq_true rfl) ?_
  unfold fX11_turn
  show MF rI (yX11_turn.cls, cX11_turn, 2, (some .int), yX11_turn.name, d + 7, 0, 0) 0 [(0, .ref 0), (1, .int a1)] [] q _
  refine mf_aload_n 0 dX11_turn_0 rfl ?_
  refine mf_bipush (v := 15) dX11_turn_1 (by decide) ?_
  refine mf_iload_n 1 dX11_turn_3 rfl ?_
  refine mf_iconst (v := 0) dX11_turn_4 rfl ?_
  refine mf_cVi (rest := []) [.int 15, .int a1, .int 0] (aX11_act (d + 0) q hq 15 a1 0) mY_X11_act dX11_turn_5 ml_X11_253 (lf_o (w_lf hq)) rfl rfl (Nat.le_of_ble_eq_true rfl) rfl (fun v1 => ?_)
  exact mf_ireturn dX11_turn_8 rfl rfl ⟨rfl, rfl⟩
set_option maxRecDepth 100000 in
set_option maxHeartbeats 4000000 in
theorem aX11_fail (d : Nat) (q : m_S) (hq : isW q) (a1 : Int32) (a2 : Int32) : AC rI yX11_fail cX11_fail 3 (some .int) (d + 7) [.ref 0, .int a1, .int a2] q (fX11_fail a1 a2) := by
  refine ac_of (by decide +kernel) (Nat.le_of_ble_eq_true rfl) ?_
  unfold fX11_fail
  show MF rI (yX11_fail.cls, cX11_fail, 3, (some .int), yX11_fail.name, d + 7, 0, 0) 0 [(0, .ref 0), (1, .int a1), (2, .int a2)] [] q _
  refine mf_iload_n 2 dX11_fail_0 rfl ?_
  refine mf_if_eq (tgt := 11) dX11_fail_1 (by decide) ?_ ?_
  · refine mf_aload_n 0 dX11_fail_11 rfl ?_
    refine mf_bipush (v := 16) dX11_fail_12 (by decide) ?_
    refine mf_iload_n 1 dX11_fail_14 rfl ?_
    refine mf_iload_n 2 dX11_fail_15 rfl ?_
    refine mf_cVi (rest := []) [.int 16, .int a1, .int a2] (aX11_act (d + 0) q hq 16 a1 a2) mY_X11_act dX11_fail_16 ml_X11_253 (lf_o (w_lf hq)) rfl rfl (Nat.le_of_ble_eq_true rfl) rfl (fun v1 => ?_)
    exact mf_ireturn dX11_fail_19 rfl rfl ⟨rfl, rfl⟩
  · refine mf_iload_n 2 dX11_fail_4 rfl ?_
    refine mf_iconst (v := 1) dX11_fail_5 rfl ?_
    refine mf_icmp_eq (tgt := 11) dX11_fail_6 (by decide) ?_ ?_
    · refine mf_aload_n 0 dX11_fail_11 rfl ?_
      refine mf_bipush (v := 16) dX11_fail_12 (by decide) ?_
      refine mf_iload_n 1 dX11_fail_14 rfl ?_
      refine mf_iload_n 2 dX11_fail_15 rfl ?_
      refine mf_cVi (rest := []) [.int 16, .int a1, .int a2] (aX11_act (d + 0) q hq 16 a1 a2) mY_X11_act dX11_fail_16 ml_X11_253 (lf_o (w_lf hq)) rfl rfl (Nat.le_of_ble_eq_true rfl) rfl (fun v2 => ?_)
      exact mf_ireturn dX11_fail_19 rfl rfl ⟨rfl, rfl⟩
    · refine mf_iconst (v := -1) dX11_fail_9 rfl ?_
      exact mf_ireturn dX11_fail_10 rfl rfl ⟨rfl, rfl⟩
set_option maxRecDepth 100000 in
set_option maxHeartbeats 4000000 in
theorem aX11_mend (d : Nat) (q : m_S) (hq : isW q) (a1 : Int32) : AC rI yX11_mend cX11_mend 2 (some .int) (d + 7) [.ref 0, .int a1] q (fX11_mend a1) := by
  refine ac_of (by decide +kernel) (Nat.le_of_ble_eq_true rfl) ?_
  unfold fX11_mend
  show MF rI (yX11_mend.cls, cX11_mend, 2, (some .int), yX11_mend.name, d + 7, 0, 0) 0 [(0, .ref 0), (1, .int a1)] [] q _
  refine mf_aload_n 0 dX11_mend_0 rfl ?_
  refine mf_bipush (v := 19) dX11_mend_1 (by decide) ?_
  refine mf_iload_n 1 dX11_mend_3 rfl ?_
  refine mf_iconst (v := 0) dX11_mend_4 rfl ?_
  refine mf_cVi (rest := []) [.int 19, .int a1, .int 0] (aX11_act (d + 0) q hq 19 a1 0) mY_X11_act dX11_mend_5 ml_X11_253 (lf_o (w_lf hq)) rfl rfl (Nat.le_of_ble_eq_true rfl) rfl (fun v1 => ?_)
  exact mf_ireturn dX11_mend_8 rfl rfl ⟨rfl, rfl⟩
set_option maxRecDepth 100000 in
set_option maxHeartbeats 4000000 in
theorem aX11_ticks (d : Nat) (q : m_S) (hq : isW q) (a1 : Int32) : AC rI yX11_ticks cX11_ticks 3 (some .int) (d + 6) [.ref 0, .int a1] q (fX11_ticks a1) := by
  refine ac_of (by decide +kernel) (Nat.le_of_ble_eq_true rfl) ?_
  unfold fX11_ticks
  show MF rI (yX11_ticks.cls, cX11_ticks, 3, (some .int), yX11_ticks.name, d + 6, 0, 0) 0 [(0, .ref 0), (1, .int a1)] [] q _
  refine mf_iload_n 1 dX11_ticks_0 rfl ?_
  refine mf_iconst (v := 1) dX11_ticks_1 rfl ?_
  refine mf_icmp_lt (tgt := 11) dX11_ticks_2 (by decide) ?_ ?_
  · refine mf_iconst (v := -1) dX11_ticks_11 rfl ?_
    exact mf_ireturn dX11_ticks_12 rfl rfl ⟨rfl, rfl⟩
  · refine mf_iload_n 1 dX11_ticks_5 rfl ?_
    refine mf_bipush (v := 60) dX11_ticks_6 (by decide) ?_
    refine mf_icmp_le (tgt := 13) dX11_ticks_8 (by decide) ?_ ?_
    · refine mf_aload_n 0 dX11_ticks_13 rfl ?_
      refine mf_getr 11 5 dX11_ticks_14 fl_X11_45 (by decide) (by decide) rfl (lf_o (w_lf hq)) (lf_r5 (w_lf hq)) (by decide) ?_
      refine mf_aload_n 0 dX11_ticks_17 rfl ?_
      refine mf_getr 11 3 dX11_ticks_18 fl_X11_35 (by decide) (by decide) rfl (lf_o (w_lf hq)) (lf_r3 (w_lf hq)) (by decide) ?_
      refine mf_cVv (rest := []) [.ref 47] (aX3_note (d + 2) q hq) mY_X3_note dX11_ticks_21 ml_X11_257 (hi_o (w_hi hq)) rfl rfl (Nat.le_of_ble_eq_true rfl) rfl (fun _ => ?_)
      refine mf_aload_n 0 dX11_ticks_24 rfl ?_
      refine mf_getr 11 3 dX11_ticks_25 fl_X11_35 (by decide) (by decide) rfl (lf_o (w_lf hq)) (lf_r3 (w_lf hq)) (by decide) ?_
      refine mf_iload_n 1 dX11_ticks_28 rfl ?_
      refine mf_cVi (rest := []) [.int a1] (aX8_passTicks (d + 0) q hq 47 a1 st47) mY_X8_passTicks dX11_ticks_29 ml_X11_261 (sa_o (w_st hq st47)) rfl rfl (Nat.le_of_ble_eq_true rfl) rfl (fun v1 => ?_)
      refine mf_istore_n [(2, .int v1), (0, .ref 0), (1, .int a1)] dX11_ticks_32 (Nat.le_of_ble_eq_true rfl) rfl ?_
      refine mf_iload_n 0 dX11_ticks_33 rfl ?_
      refine mf_if_le (tgt := 44) dX11_ticks_34 (by decide) ?_ ?_
      · refine mf_iload_n 0 dX11_ticks_44 rfl ?_
        exact mf_ireturn dX11_ticks_45 rfl rfl ⟨rfl, rfl⟩
      · refine mf_aload_n 1 dX11_ticks_37 rfl ?_
        refine mf_getr 11 5 dX11_ticks_38 fl_X11_45 (by decide) (by decide) rfl (lf_o (w_lf hq)) (lf_r5 (w_lf hq)) (by decide) ?_
        refine mf_cVv (rest := []) [] (aX3_keepNoted (d + 4) q hq) mY_X3_keepNoted dX11_ticks_41 ml_X11_264 (hi_o (w_hi hq)) rfl rfl (Nat.le_of_ble_eq_true rfl) rfl (fun _ => ?_)
        refine mf_iload_n 0 dX11_ticks_44 rfl ?_
        exact mf_ireturn dX11_ticks_45 rfl rfl ⟨rfl, rfl⟩
    · refine mf_iconst (v := -1) dX11_ticks_11 rfl ?_
      exact mf_ireturn dX11_ticks_12 rfl rfl ⟨rfl, rfl⟩
set_option maxRecDepth 100000 in
set_option maxHeartbeats 4000000 in
theorem aX11_undo (d : Nat) (q : m_S) (hq : isW q)  : AC rI yX11_undo cX11_undo 1 (some .int) (d + 4) [.ref 0] q (fX11_undo ) := by
  refine ac_of (by decide +kernel) (Nat.le_of_ble_eq_true rfl) ?_
  unfold fX11_undo
  show MF rI (yX11_undo.cls, cX11_undo, 1, (some .int), yX11_undo.name, d + 4, 0, 0) 0 [(0, .ref 0)] [] q _
  refine mf_aload_n 0 dX11_undo_0 rfl ?_
  refine mf_getr 11 5 dX11_undo_1 fl_X11_45 (by decide) (by decide) rfl (lf_o (w_lf hq)) (lf_r5 (w_lf hq)) (by decide) ?_
  refine mf_aload_n 0 dX11_undo_4 rfl ?_
  refine mf_getr 11 3 dX11_undo_5 fl_X11_35 (by decide) (by decide) rfl (lf_o (w_lf hq)) (lf_r3 (w_lf hq)) (by decide) ?_
  refine mf_cVi (rest := []) [.ref 47] (aX3_takeBack (d + 0) q hq) mY_X3_takeBack dX11_undo_8 ml_X11_267 (hi_o (w_hi hq)) rfl rfl (Nat.le_of_ble_eq_true rfl) rfl (fun v1 => ?_)
  exact mf_ireturn dX11_undo_11 rfl rfl ⟨rfl, rfl⟩
set_option maxRecDepth 100000 in
set_option maxHeartbeats 4000000 in
theorem aX11_lacking (d : Nat) (q : m_S) (hq : isW q)  : AC rI yX11_lacking cX11_lacking 1 (some .int) (d + 4) [.ref 0] q (fX11_lacking ) := by
  refine ac_of (by decide +kernel) (Nat.le_of_ble_eq_true rfl) ?_
  unfold fX11_lacking
  show MF rI (yX11_lacking.cls, cX11_lacking, 1, (some .int), yX11_lacking.name, d + 4, 0, 0) 0 [(0, .ref 0)] [] q _
  refine mf_aload_n 0 dX11_lacking_0 rfl ?_
  refine mf_getr 11 1 dX11_lacking_1 fl_X11_19 (by decide) (by decide) rfl (lf_o (w_lf hq)) (lf_r1 (w_lf hq)) (by decide) ?_
  refine mf_cVi (rest := []) [] (aX5_countLacking (d + 0) q hq 4 pl4) mY_X5_countLacking dX11_lacking_4 ml_X11_271 (pl_o (w_pl hq pl4)) rfl rfl (Nat.le_of_ble_eq_true rfl) rfl (fun v1 => ?_)
  exact mf_ireturn dX11_lacking_7 rfl rfl ⟨rfl, rfl⟩
set_option maxRecDepth 100000 in
set_option maxHeartbeats 4000000 in
theorem aX11_lacks (d : Nat) (q : m_S) (hq : isW q) (a1 : Int32) : AC rI yX11_lacks cX11_lacks 2 (some .int) (d + 4) [.ref 0, .int a1] q (fX11_lacks a1) := by
  refine ac_of (by decide +kernel) (Nat.le_of_ble_eq_true rfl) ?_
  unfold fX11_lacks
  show MF rI (yX11_lacks.cls, cX11_lacks, 2, (some .int), yX11_lacks.name, d + 4, 0, 0) 0 [(0, .ref 0), (1, .int a1)] [] q _
  refine mf_aload_n 0 dX11_lacks_0 rfl ?_
  refine mf_getr 11 1 dX11_lacks_1 fl_X11_19 (by decide) (by decide) rfl (lf_o (w_lf hq)) (lf_r1 (w_lf hq)) (by decide) ?_
  refine mf_iload_n 1 dX11_lacks_4 rfl ?_
  refine mf_cVi (rest := []) [.int a1] (aX5_lackingAt (d + 0) q hq 4 a1 pl4) mY_X5_lackingAt dX11_lacks_5 ml_X11_274 (pl_o (w_pl hq pl4)) rfl rfl (Nat.le_of_ble_eq_true rfl) rfl (fun v1 => ?_)
  exact mf_ireturn dX11_lacks_8 rfl rfl ⟨rfl, rfl⟩
set_option maxRecDepth 100000 in
set_option maxHeartbeats 4000000 in
theorem aX11_spare (d : Nat) (q : m_S) (hq : isW q)  : AC rI yX11_spare cX11_spare 1 (some .int) (d + 3) [.ref 0] q (fX11_spare ) := by
  refine ac_of (by decide +kernel) (Nat.le_of_ble_eq_true rfl) ?_
  unfold fX11_spare
  show MF rI (yX11_spare.cls, cX11_spare, 1, (some .int), yX11_spare.name, d + 3, 0, 0) 0 [(0, .ref 0)] [] q _
  refine mf_aload_n 0 dX11_spare_0 rfl ?_
  refine mf_getr 11 1 dX11_spare_1 fl_X11_19 (by decide) (by decide) rfl (lf_o (w_lf hq)) (lf_r1 (w_lf hq)) (by decide) ?_
  refine mf_cVi (rest := []) [] (aX5_countSpare (d + 0) q hq 4 pl4) mY_X5_countSpare dX11_spare_4 ml_X11_277 (pl_o (w_pl hq pl4)) rfl rfl (Nat.le_of_ble_eq_true rfl) rfl (fun v1 => ?_)
  exact mf_ireturn dX11_spare_7 rfl rfl ⟨rfl, rfl⟩
set_option maxRecDepth 100000 in
set_option maxHeartbeats 4000000 in
theorem aX11_pulls (d : Nat) (q : m_S) (hq : isW q) (a1 : Int32) : AC rI yX11_pulls cX11_pulls 2 (some .int) (d + 4) [.ref 0, .int a1] q (fX11_pulls a1) := by
  refine ac_of (by decide +kernel) (Nat.le_of_ble_eq_true rfl) ?_
  unfold fX11_pulls
  show MF rI (yX11_pulls.cls, cX11_pulls, 2, (some .int), yX11_pulls.name, d + 4, 0, 0) 0 [(0, .ref 0), (1, .int a1)] [] q _
  refine mf_aload_n 0 dX11_pulls_0 rfl ?_
  refine mf_getr 11 10 dX11_pulls_1 fl_X11_75 (by decide) (by decide) rfl (lf_o (w_lf hq)) (lf_r10 (w_lf hq)) (by decide) ?_
  refine mf_aload_n 0 dX11_pulls_4 rfl ?_
  refine mf_getr 11 1 dX11_pulls_5 fl_X11_19 (by decide) (by decide) rfl (lf_o (w_lf hq)) (lf_r1 (w_lf hq)) (by decide) ?_
  refine mf_aload_n 0 dX11_pulls_8 rfl ?_
  refine mf_getr 11 3 dX11_pulls_9 fl_X11_35 (by decide) (by decide) rfl (lf_o (w_lf hq)) (lf_r3 (w_lf hq)) (by decide) ?_
  refine mf_iload_n 1 dX11_pulls_12 rfl ?_
  refine mf_cVi (rest := []) [.ref 4, .ref 47, .int a1] (aX1_workOutPulls (d + 0) q hq a1) mY_X1_workOutPulls dX11_pulls_13 ml_X11_280 (co_o (w_co hq)) rfl rfl (Nat.le_of_ble_eq_true rfl) rfl (fun v1 => ?_)
  exact mf_ireturn dX11_pulls_16 rfl rfl ⟨rfl, rfl⟩
set_option maxRecDepth 100000 in
set_option maxHeartbeats 4000000 in
theorem aX11_pullsAt (d : Nat) (q : m_S) (hq : isW q) (a1 : Int32) : AC rI yX11_pullsAt cX11_pullsAt 2 (some .int) (d + 2) [.ref 0, .int a1] q (fX11_pullsAt a1) := by
  refine ac_of (by decide +kernel) (Nat.le_of_ble_eq_true rfl) ?_
  unfold fX11_pullsAt
  show MF rI (yX11_pullsAt.cls, cX11_pullsAt, 2, (some .int), yX11_pullsAt.name, d + 2, 0, 0) 0 [(0, .ref 0), (1, .int a1)] [] q _
  refine mf_aload_n 0 dX11_pullsAt_0 rfl ?_
  refine mf_getr 11 10 dX11_pullsAt_1 fl_X11_75 (by decide) (by decide) rfl (lf_o (w_lf hq)) (lf_r10 (w_lf hq)) (by decide) ?_
  refine mf_iload_n 1 dX11_pullsAt_4 rfl ?_
  refine mf_cVi (rest := []) [.int a1] (aX1_pullAt (d + 0) q hq a1) mY_X1_pullAt dX11_pullsAt_5 ml_X11_284 (co_o (w_co hq)) rfl rfl (Nat.le_of_ble_eq_true rfl) rfl (fun v1 => ?_)
  exact mf_ireturn dX11_pullsAt_8 rfl rfl ⟨rfl, rfl⟩
set_option maxRecDepth 100000 in
set_option maxHeartbeats 4000000 in
theorem aX11_together (d : Nat) (q : m_S) (hq : isW q)  : AC rI yX11_together cX11_together 1 (some .int) (d + 3) [.ref 0] q (fX11_together ) := by
  refine ac_of (by decide +kernel) (Nat.le_of_ble_eq_true rfl) ?_
  unfold fX11_together
  show MF rI (yX11_together.cls, cX11_together, 1, (some .int), yX11_together.name, d + 3, 0, 0) 0 [(0, .ref 0)] [] q _
  refine mf_aload_n 0 dX11_together_0 rfl ?_
  refine mf_aload_n 0 dX11_together_1 rfl ?_
  refine mf_getr 11 1 dX11_together_2 fl_X11_19 (by decide) (by decide) rfl (lf_o (w_lf hq)) (lf_r1 (w_lf hq)) (by decide) ?_
  refine mf_cVi (rest := [.ref 0]) [] (aX5_mostTogether (d + 0) q hq 4 pl4) mY_X5_mostTogether dX11_together_5 ml_X11_287 (pl_o (w_pl hq pl4)) rfl rfl (Nat.le_of_ble_eq_true rfl) rfl (fun v1 => ?_)
  refine mf_puti 11 14 dX11_together_8 fl_X11_97 (by decide) (by decide) rfl rfl (lf_o (w_lf hq)) ?_
  refine mf_aload_n 0 dX11_together_11 rfl ?_
  refine mf_geti 11 14 dX11_together_12 fl_X11_97 (by decide) (by decide) rfl (lf_o (w_lf hq)) (fun v2 => ?_)
  refine mf_cSi (rest := []) [.int v2] (aJ6_bitCount_0f7a4 (d + 1) q hq v2) mY_J6_bitCount_0f7a4 dX11_together_15 ml_X11_290 rfl rfl (Nat.le_of_ble_eq_true rfl) rfl (fun v3 => ?_)
  exact mf_ireturn dX11_together_18 rfl rfl ⟨rfl, rfl⟩
set_option maxRecDepth 100000 in
set_option maxHeartbeats 4000000 in
theorem aX11_those (d : Nat) (q : m_S) (hq : isW q)  : AC rI yX11_those cX11_those 1 (some .int) (d + 1) [.ref 0] q (fX11_those ) := by
  refine ac_of (by decide +kernel) (Nat.le_of_ble_eq_true rfl) ?_
  unfold fX11_those
  show MF rI (yX11_those.cls, cX11_those, 1, (some .int), yX11_those.name, d + 1, 0, 0) 0 [(0, .ref 0)] [] q _
  refine mf_aload_n 0 dX11_those_0 rfl ?_
  refine mf_geti 11 14 dX11_those_1 fl_X11_97 (by decide) (by decide) rfl (lf_o (w_lf hq)) (fun v1 => ?_)
  exact mf_ireturn dX11_those_4 rfl rfl ⟨rfl, rfl⟩
set_option maxRecDepth 100000 in
set_option maxHeartbeats 4000000 in
theorem aX11_rounds (d : Nat) (q : m_S) (hq : isW q)  : AC rI yX11_rounds cX11_rounds 1 (some .int) (d + 22) [.ref 0] q (fX11_rounds ) := by
  refine ac_of (by decide +kernel) (Nat.le_of_ble_eq_true rfl) ?_
  unfold fX11_rounds
  show MF rI (yX11_rounds.cls, cX11_rounds, 1, (some .int), yX11_rounds.name, d + 22, 0, 0) 0 [(0, .ref 0)] [] q _
  refine mf_aload_n 0 dX11_rounds_0 rfl ?_
  refine mf_getr 11 10 dX11_rounds_1 fl_X11_75 (by decide) (by decide) rfl (lf_o (w_lf hq)) (lf_r10 (w_lf hq)) (by decide) ?_
  refine mf_aload_n 0 dX11_rounds_4 rfl ?_
  refine mf_getr 11 1 dX11_rounds_5 fl_X11_19 (by decide) (by decide) rfl (lf_o (w_lf hq)) (lf_r1 (w_lf hq)) (by decide) ?_
  refine mf_cVi (rest := []) [.ref 4] (aX1_countRounds (d + 0) q hq) mY_X1_countRounds dX11_rounds_8 ml_X11_295 (co_o (w_co hq)) rfl rfl (Nat.le_of_ble_eq_true rfl) rfl (fun v1 => ?_)
  exact mf_ireturn dX11_rounds_11 rfl rfl ⟨rfl, rfl⟩
set_option maxRecDepth 100000 in
set_option maxHeartbeats 4000000 in
theorem aX11_path (d : Nat) (q : m_S) (hq : isW q) (a1 : Int32) (a2 : Int32) : AC rI yX11_path cX11_path 3 (some .int) (d + 7) [.ref 0, .int a1, .int a2] q (fX11_path a1 a2) := by
  refine ac_of (by decide +kernel) (Nat.le_of_ble_eq_true rfl) ?_
  unfold fX11_path
  show MF rI (yX11_path.cls, cX11_path, 3, (some .int), yX11_path.name, d + 7, 0, 0) 0 [(0, .ref 0), (1, .int a1), (2, .int a2)] [] q _
  refine mf_aload_n 0 dX11_path_0 rfl ?_
  refine mf_getr 11 10 dX11_path_1 fl_X11_75 (by decide) (by decide) rfl (lf_o (w_lf hq)) (lf_r10 (w_lf hq)) (by decide) ?_
  refine mf_aload_n 0 dX11_path_4 rfl ?_
  refine mf_getr 11 1 dX11_path_5 fl_X11_19 (by decide) (by decide) rfl (lf_o (w_lf hq)) (lf_r1 (w_lf hq)) (by decide) ?_
  refine mf_aload_n 0 dX11_path_8 rfl ?_
  refine mf_getr 11 3 dX11_path_9 fl_X11_35 (by decide) (by decide) rfl (lf_o (w_lf hq)) (lf_r3 (w_lf hq)) (by decide) ?_
  refine mf_iload_n 1 dX11_path_12 rfl ?_
  refine mf_iload_n 2 dX11_path_13 rfl ?_
  refine mf_cVi (rest := []) [.ref 4, .ref 47, .int a1, .int a2] (aX1_workOutPath (d + 0) q hq a1 a2) mY_X1_workOutPath dX11_path_14 ml_X11_299 (co_o (w_co hq)) rfl rfl (Nat.le_of_ble_eq_true rfl) rfl (fun v1 => ?_)
  exact mf_ireturn dX11_path_17 rfl rfl ⟨rfl, rfl⟩
set_option maxRecDepth 100000 in
set_option maxHeartbeats 4000000 in
theorem aX11_pathAt (d : Nat) (q : m_S) (hq : isW q) (a1 : Int32) : AC rI yX11_pathAt cX11_pathAt 2 (some .int) (d + 2) [.ref 0, .int a1] q (fX11_pathAt a1) := by
  refine ac_of (by decide +kernel) (Nat.le_of_ble_eq_true rfl) ?_
  unfold fX11_pathAt
  show MF rI (yX11_pathAt.cls, cX11_pathAt, 2, (some .int), yX11_pathAt.name, d + 2, 0, 0) 0 [(0, .ref 0), (1, .int a1)] [] q _
  refine mf_aload_n 0 dX11_pathAt_0 rfl ?_
  refine mf_getr 11 10 dX11_pathAt_1 fl_X11_75 (by decide) (by decide) rfl (lf_o (w_lf hq)) (lf_r10 (w_lf hq)) (by decide) ?_
  refine mf_iload_n 1 dX11_pathAt_4 rfl ?_
  refine mf_cVi (rest := []) [.int a1] (aX1_stepAt (d + 0) q hq a1) mY_X1_stepAt dX11_pathAt_5 ml_X11_303 (co_o (w_co hq)) rfl rfl (Nat.le_of_ble_eq_true rfl) rfl (fun v1 => ?_)
  exact mf_ireturn dX11_pathAt_8 rfl rfl ⟨rfl, rfl⟩
set_option maxRecDepth 100000 in
set_option maxHeartbeats 4000000 in
theorem aX11_comes (d : Nat) (q : m_S) (hq : isW q) (a1 : Int32) (a2 : Int32) : AC rI yX11_comes cX11_comes 4 (some .int) (d + 5) [.ref 0, .int a1, .int a2] q (fX11_comes a1 a2) := by
  refine ac_of (by decide +kernel) (Nat.le_of_ble_eq_true rfl) ?_
  unfold fX11_comes
  show MF rI (yX11_comes.cls, cX11_comes, 4, (some .int), yX11_comes.name, d + 5, 0, 0) 0 [(0, .ref 0), (1, .int a1), (2, .int a2)] [] q _
  refine mf_aload_n 0 dX11_comes_0 rfl ?_
  refine mf_getr 11 1 dX11_comes_1 fl_X11_19 (by decide) (by decide) rfl (lf_o (w_lf hq)) (lf_r1 (w_lf hq)) (by decide) ?_
  refine mf_bipush (v := 6) dX11_comes_4 (by decide) ?_
  refine mf_iload_n 1 dX11_comes_6 rfl ?_
  refine mf_cVi (rest := []) [.int 6, .int a1] (aX5_has (d + 3) q hq 4 6 a1 pl4) mY_X5_has dX11_comes_7 ml_X11_134 (pl_o (w_pl hq pl4)) rfl rfl (Nat.le_of_ble_eq_true rfl) rfl (fun v1 => ?_)
  refine mf_if_eq (tgt := 25) dX11_comes_10 (by decide) ?_ ?_
  · refine mf_iconst (v := -1) dX11_comes_25 rfl ?_
    exact mf_ireturn dX11_comes_26 rfl rfl ⟨rfl, rfl⟩
  · refine mf_aload_n 0 dX11_comes_13 rfl ?_
    refine mf_getr 11 1 dX11_comes_14 fl_X11_19 (by decide) (by decide) rfl (lf_o (w_lf hq)) (lf_r1 (w_lf hq)) (by decide) ?_
    refine mf_iconst (v := 0) dX11_comes_17 rfl ?_
    refine mf_iload_n 2 dX11_comes_18 rfl ?_
    refine mf_cVi (rest := []) [.int 0, .int a2] (aX5_has (d + 3) q hq 4 0 a2 pl4) mY_X5_has dX11_comes_19 ml_X11_134 (pl_o (w_pl hq pl4)) rfl rfl (Nat.le_of_ble_eq_true rfl) rfl (fun v2 => ?_)
    refine mf_if_ne (tgt := 27) dX11_comes_22 (by decide) ?_ ?_
    · refine mf_aload_n 0 dX11_comes_27 rfl ?_
      refine mf_getr 11 4 dX11_comes_28 fl_X11_39 (by decide) (by decide) rfl (lf_o (w_lf hq)) (lf_r4 (w_lf hq)) (by decide) ?_
      refine mf_aload_n 0 dX11_comes_31 rfl ?_
      refine mf_getr 11 3 dX11_comes_32 fl_X11_35 (by decide) (by decide) rfl (lf_o (w_lf hq)) (lf_r3 (w_lf hq)) (by decide) ?_
      refine mf_cVv (rest := []) [.ref 47] (aX8_copyFrom (d + 2) q hq 54 47 st54 st47) mY_X8_copyFrom dX11_comes_35 ml_X11_306 (sa_o (w_st hq st54)) rfl rfl (Nat.le_of_ble_eq_true rfl) rfl (fun _ => ?_)
      refine mf_iconst (v := 0) dX11_comes_38 rfl ?_
      refine mf_istore_n [(3, .int 0), (0, .ref 0), (1, .int a1), (2, .int a2)] dX11_comes_39 (Nat.le_of_ble_eq_true rfl) rfl ?_
      refine mf_sub [1, 2, 3, 0] rfl ?_
      refine mf_lz1 (lv := fun x3 => [(0, .ref 0), (1, .int a1), (2, .int a2), (3, .int x3)]) (fun L40 h40 x3 => ?_) _ _
      show MF rI (yX11_comes.cls, cX11_comes, 4, (some .int), yX11_comes.name, d + 5, 0, 0) 40 [(0, .ref 0), (1, .int a1), (2, .int a2), (3, .int x3)] [] q _
      refine mf_iload_n 3 dX11_comes_40 rfl ?_
      refine mf_sipush (v := 300) dX11_comes_41 (by decide) ?_
      refine mf_icmp_gt (tgt := 75) dX11_comes_44 (by decide) ?_ ?_
      · refine mf_iconst (v := -1) dX11_comes_75 rfl ?_
        exact mf_ireturn dX11_comes_76 rfl rfl ⟨rfl, rfl⟩
      · refine mf_aload_n 0 dX11_comes_47 rfl ?_
        refine mf_getr 11 4 dX11_comes_48 fl_X11_39 (by decide) (by decide) rfl (lf_o (w_lf hq)) (lf_r4 (w_lf hq)) (by decide) ?_
        refine mf_getr 8 11 dX11_comes_51 fl_X11_218 (by decide) (by decide) rfl (sa_o (w_st hq st54)) (sa_r11 (w_st hq st54)) (by decide) ?_
        refine mf_iload_n 1 dX11_comes_54 rfl ?_
        refine mf_iald dX11_comes_55 (sa_a11 (w_st hq st54)) (fun v4 => ?_)
        refine mf_iload_n 2 dX11_comes_56 rfl ?_
        refine mf_icmp_ne (tgt := 62) dX11_comes_57 (by decide) ?_ ?_
        · refine mf_aload_n 0 dX11_comes_62 rfl ?_
          refine mf_getr 11 4 dX11_comes_63 fl_X11_39 (by decide) (by decide) rfl (lf_o (w_lf hq)) (lf_r4 (w_lf hq)) (by decide) ?_
          refine mf_cVv (rest := []) [] (aX8_passOne (d + 0) q hq 54 st54) mY_X8_passOne dX11_comes_66 ml_X11_308 (sa_o (w_st hq st54)) rfl rfl (Nat.le_of_ble_eq_true rfl) rfl (fun _ => ?_)
          refine mf_iinc 3 (x3 + 1) [(3, .int (x3 + 1)), (0, .ref 0), (1, .int a1), (2, .int a2)] dX11_comes_69 rfl rfl (Nat.le_of_ble_eq_true rfl) rfl ?_
          refine mf_goto (tgt := 40) dX11_comes_72 (by decide) ?_
          refine mf_sub [1, 2, 3, 0] rfl ?_
          exact h40 _
        · refine mf_iload_n 3 dX11_comes_60 rfl ?_
          exact mf_ireturn dX11_comes_61 rfl rfl ⟨rfl, rfl⟩
    · refine mf_iconst (v := -1) dX11_comes_25 rfl ?_
      exact mf_ireturn dX11_comes_26 rfl rfl ⟨rfl, rfl⟩
set_option maxRecDepth 100000 in
set_option maxHeartbeats 4000000 in
theorem aX11_meet (d : Nat) (q : m_S) (hq : isW q)  : AC rI yX11_meet cX11_meet 2 (some .int) (d + 5) [.ref 0] q (fX11_meet ) := by
  refine ac_of (by decide +kernel) (Nat.le_of_ble_eq_true rfl) ?_
  unfold fX11_meet
  show MF rI (yX11_meet.cls, cX11_meet, 2, (some .int), yX11_meet.name, d + 5, 0, 0) 0 [(0, .ref 0)] [] q _
  refine mf_aload_n 0 dX11_meet_0 rfl ?_
  refine mf_getr 11 4 dX11_meet_1 fl_X11_39 (by decide) (by decide) rfl (lf_o (w_lf hq)) (lf_r4 (w_lf hq)) (by decide) ?_
  refine mf_aload_n 0 dX11_meet_4 rfl ?_
  refine mf_getr 11 3 dX11_meet_5 fl_X11_35 (by decide) (by decide) rfl (lf_o (w_lf hq)) (lf_r3 (w_lf hq)) (by decide) ?_
  refine mf_cVv (rest := []) [.ref 47] (aX8_copyFrom (d + 2) q hq 54 47 st54 st47) mY_X8_copyFrom dX11_meet_8 ml_X11_306 (sa_o (w_st hq st54)) rfl rfl (Nat.le_of_ble_eq_true rfl) rfl (fun _ => ?_)
  refine mf_iconst (v := 1) dX11_meet_11 rfl ?_
  refine mf_istore_n [(1, .int 1), (0, .ref 0)] dX11_meet_12 (Nat.le_of_ble_eq_true rfl) rfl ?_
  refine mf_sub [1, 0] rfl ?_
  refine mf_lz1 (lv := fun x1 => [(0, .ref 0), (1, .int x1)]) (fun L13 h13 x1 => ?_) _ _
  show MF rI (yX11_meet.cls, cX11_meet, 2, (some .int), yX11_meet.name, d + 5, 0, 0) 13 [(0, .ref 0), (1, .int x1)] [] q _
  refine mf_iload_n 1 dX11_meet_13 rfl ?_
  refine mf_sipush (v := 300) dX11_meet_14 (by decide) ?_
  refine mf_icmp_gt (tgt := 52) dX11_meet_17 (by decide) ?_ ?_
  · refine mf_iconst (v := -1) dX11_meet_52 rfl ?_
    exact mf_ireturn dX11_meet_53 rfl rfl ⟨rfl, rfl⟩
  · refine mf_aload_n 0 dX11_meet_20 rfl ?_
    refine mf_getr 11 4 dX11_meet_21 fl_X11_39 (by decide) (by decide) rfl (lf_o (w_lf hq)) (lf_r4 (w_lf hq)) (by decide) ?_
    refine mf_cVv (rest := []) [] (aX8_passOne (d + 0) q hq 54 st54) mY_X8_passOne dX11_meet_24 ml_X11_308 (sa_o (w_st hq st54)) rfl rfl (Nat.le_of_ble_eq_true rfl) rfl (fun _ => ?_)
    refine mf_aload_n 0 dX11_meet_27 rfl ?_
    refine mf_getr 11 4 dX11_meet_28 fl_X11_39 (by decide) (by decide) rfl (lf_o (w_lf hq)) (lf_r4 (w_lf hq)) (by decide) ?_
    refine mf_geti 8 6 dX11_meet_31 fl_X11_227 (by decide) (by decide) rfl (sa_o (w_st hq st54)) (fun v2 => ?_)
    refine mf_aload_n 0 dX11_meet_34 rfl ?_
    refine mf_getr 11 3 dX11_meet_35 fl_X11_35 (by decide) (by decide) rfl (lf_o (w_lf hq)) (lf_r3 (w_lf hq)) (by decide) ?_
    refine mf_geti 8 6 dX11_meet_38 fl_X11_227 (by decide) (by decide) rfl (sa_o (w_st hq st47)) (fun v3 => ?_)
    refine mf_icmp_eq (tgt := 46) dX11_meet_41 (by decide) ?_ ?_
    · refine mf_iinc 1 (x1 + 1) [(1, .int (x1 + 1)), (0, .ref 0)] dX11_meet_46 rfl rfl (Nat.le_of_ble_eq_true rfl) rfl ?_
      refine mf_goto (tgt := 13) dX11_meet_49 (by decide) ?_
      refine mf_sub [1, 0] rfl ?_
      exact h13 _
    · refine mf_iload_n 1 dX11_meet_44 rfl ?_
      exact mf_ireturn dX11_meet_45 rfl rfl ⟨rfl, rfl⟩
set_option maxRecDepth 100000 in
set_option maxHeartbeats 4000000 in
theorem aX11_fits (d : Nat) (q : m_S) (hq : isW q)  : AC rI yX11_fits cX11_fits 2 (some .int) (d + 5) [.ref 0] q (fX11_fits ) := by
  refine ac_of (by decide +kernel) (Nat.le_of_ble_eq_true rfl) ?_
  unfold fX11_fits
  show MF rI (yX11_fits.cls, cX11_fits, 2, (some .int), yX11_fits.name, d + 5, 0, 0) 0 [(0, .ref 0)] [] q _
  refine mf_aload_n 0 dX11_fits_0 rfl ?_
  refine mf_getr 11 11 dX11_fits_1 fl_X11_82 (by decide) (by decide) rfl (lf_o (w_lf hq)) (lf_r11 (w_lf hq)) (by decide) ?_
  refine mf_aload_n 0 dX11_fits_4 rfl ?_
  refine mf_getr 11 0 dX11_fits_5 fl_X11_10 (by decide) (by decide) rfl (lf_o (w_lf hq)) (lf_r0 (w_lf hq)) (by decide) ?_
  refine mf_aload_n 0 dX11_fits_8 rfl ?_
  refine mf_getr 11 1 dX11_fits_9 fl_X11_19 (by decide) (by decide) rfl (lf_o (w_lf hq)) (lf_r1 (w_lf hq)) (by decide) ?_
  refine mf_aload_n 0 dX11_fits_12 rfl ?_
  refine mf_getr 11 3 dX11_fits_13 fl_X11_35 (by decide) (by decide) rfl (lf_o (w_lf hq)) (lf_r3 (w_lf hq)) (by decide) ?_
  refine mf_cVi (rest := [.ref 4, .ref 1, .ref 146]) [] (aX8_occupied (d + 3) q hq 47 st47) mY_X8_occupied dX11_fits_16 ml_X11_311 (sa_o (w_st hq st47)) rfl rfl (Nat.le_of_ble_eq_true rfl) rfl (fun v1 => ?_)
  refine mf_cVi (rest := []) [.ref 1, .ref 4, .int v1] (aX2_workOut (d + 0) q hq v1) mY_X2_workOut dX11_fits_19 ml_X11_314 (di_o (w_di hq)) rfl rfl (Nat.le_of_ble_eq_true rfl) rfl (fun v2 => ?_)
  refine mf_istore_n [(1, .int v2), (0, .ref 0)] dX11_fits_22 (Nat.le_of_ble_eq_true rfl) rfl ?_
  refine mf_aload_n 1 dX11_fits_23 rfl ?_
  refine mf_getr 11 0 dX11_fits_24 fl_X11_10 (by decide) (by decide) rfl (lf_o (w_lf hq)) (lf_r0 (w_lf hq)) (by decide) ?_
  refine mf_iconst (v := 0) dX11_fits_27 rfl ?_
  refine mf_puti 10 1 dX11_fits_28 fl_X11_101 (by decide) (by decide) rfl rfl (tx_o (w_tx hq)) ?_
  refine mf_iload_n 0 dX11_fits_31 rfl ?_
  exact mf_ireturn dX11_fits_32 rfl rfl ⟨rfl, rfl⟩
set_option maxRecDepth 100000 in
set_option maxHeartbeats 4000000 in
theorem aX11_fitsAt (d : Nat) (q : m_S) (hq : isW q) (a1 : Int32) : AC rI yX11_fitsAt cX11_fitsAt 2 (some .int) (d + 2) [.ref 0, .int a1] q (fX11_fitsAt a1) := by
  refine ac_of (by decide +kernel) (Nat.le_of_ble_eq_true rfl) ?_
  unfold fX11_fitsAt
  show MF rI (yX11_fitsAt.cls, cX11_fitsAt, 2, (some .int), yX11_fitsAt.name, d + 2, 0, 0) 0 [(0, .ref 0), (1, .int a1)] [] q _
  refine mf_aload_n 0 dX11_fitsAt_0 rfl ?_
  refine mf_getr 11 11 dX11_fitsAt_1 fl_X11_82 (by decide) (by decide) rfl (lf_o (w_lf hq)) (lf_r11 (w_lf hq)) (by decide) ?_
  refine mf_iload_n 1 dX11_fitsAt_4 rfl ?_
  refine mf_cVi (rest := []) [.int a1] (aX2_failureAt (d + 0) q hq a1) mY_X2_failureAt dX11_fitsAt_5 ml_X11_318 (di_o (w_di hq)) rfl rfl (Nat.le_of_ble_eq_true rfl) rfl (fun v1 => ?_)
  exact mf_ireturn dX11_fitsAt_8 rfl rfl ⟨rfl, rfl⟩
set_option maxRecDepth 100000 in
set_option maxHeartbeats 4000000 in
theorem aX11_ask (d : Nat) (q : m_S) (hq : isW q)  : AC rI yX11_ask cX11_ask 1 (some .int) (d + 1) [.ref 0] q (fX11_ask ) := by
  refine ac_of (by decide +kernel) (Nat.le_of_ble_eq_true rfl) ?_
  unfold fX11_ask
  show MF rI (yX11_ask.cls, cX11_ask, 1, (some .int), yX11_ask.name, d + 1, 0, 0) 0 [(0, .ref 0)] [] q _
  refine mf_aload_n 0 dX11_ask_0 rfl ?_
  refine mf_getr 11 11 dX11_ask_1 fl_X11_82 (by decide) (by decide) rfl (lf_o (w_lf hq)) (lf_r11 (w_lf hq)) (by decide) ?_
  refine mf_geti 2 2 dX11_ask_4 fl_X11_321 (by decide) (by decide) rfl (di_o (w_di hq)) (fun v1 => ?_)
  exact mf_ireturn dX11_ask_7 rfl rfl ⟨rfl, rfl⟩
set_option maxRecDepth 100000 in
set_option maxHeartbeats 4000000 in
theorem aX11_greatestCommon (d : Nat) (q : m_S) (hq : isW q) (a1 : Int32) (a2 : Int32) : AC rI yX11_greatestCommon cX11_greatestCommon 6 (some .int) (d + 1) [.int a1, .int a2] q (fX11_greatestCommon a1 a2) := by
  refine ac_of (by decide +kernel) (Nat.le_of_ble_eq_true rfl) ?_
  unfold fX11_greatestCommon
  show MF rI (yX11_greatestCommon.cls, cX11_greatestCommon, 6, (some .int), yX11_greatestCommon.name, d + 1, 0, 0) 0 [(0, .int a1), (1, .int a2)] [] q _
  refine mf_iload_n 0 dX11_greatestCommon_0 rfl ?_
  refine mf_istore_n [(2, .int a1), (0, .int a1), (1, .int a2)] dX11_greatestCommon_1 (Nat.le_of_ble_eq_true rfl) rfl ?_
  refine mf_iload_n 2 dX11_greatestCommon_2 rfl ?_
  refine mf_istore_n [(3, .int a2), (2, .int a1), (0, .int a1), (1, .int a2)] dX11_greatestCommon_3 (Nat.le_of_ble_eq_true rfl) rfl ?_
  refine mf_iconst (v := 0) dX11_greatestCommon_4 rfl ?_
  refine mf_istore [(4, .int 0), (3, .int a2), (2, .int a1), (0, .int a1), (1, .int a2)] dX11_greatestCommon_5 (Nat.le_of_ble_eq_true rfl) rfl ?_
  refine mf_sub [2, 1, 0] rfl ?_
  refine mf_lz3 (lv := fun x1 x2 x3 => [(2, .int x1), (3, .int x2), (4, .int x3)]) (fun L7 h7 x1 x2 x3 => ?_) _ _ _ _
  show MF rI (yX11_greatestCommon.cls, cX11_greatestCommon, 6, (some .int), yX11_greatestCommon.name, d + 1, 0, 0) 7 [(2, .int x1), (3, .int x2), (4, .int x3)] [] q _
  refine mf_iload 2 dX11_greatestCommon_7 rfl ?_
  refine mf_bipush (v := 64) dX11_greatestCommon_9 (by decide) ?_
  refine mf_icmp_ge (tgt := 34) dX11_greatestCommon_11 (by decide) ?_ ?_
  · refine mf_iload_n 0 dX11_greatestCommon_34 rfl ?_
    exact mf_ireturn dX11_greatestCommon_35 rfl rfl ⟨rfl, rfl⟩
  · refine mf_iload_n 1 dX11_greatestCommon_14 rfl ?_
    refine mf_if_eq (tgt := 34) dX11_greatestCommon_15 (by decide) ?_ ?_
    · refine mf_iload_n 0 dX11_greatestCommon_34 rfl ?_
      exact mf_ireturn dX11_greatestCommon_35 rfl rfl ⟨rfl, rfl⟩
    · refine mf_iload_n 0 dX11_greatestCommon_18 rfl ?_
      refine mf_iload_n 1 dX11_greatestCommon_19 rfl ?_
      refine mf_irem dX11_greatestCommon_20 ?_
      refine mf_istore [(5, .int (x1 - x1 / x2 * x2)), (2, .int x1), (3, .int x2), (4, .int x3)] dX11_greatestCommon_21 (Nat.le_of_ble_eq_true rfl) rfl ?_
      refine mf_iload_n 2 dX11_greatestCommon_23 rfl ?_
      refine mf_istore_n [(2, .int x2), (5, .int (x1 - x1 / x2 * x2)), (3, .int x2), (4, .int x3)] dX11_greatestCommon_24 (Nat.le_of_ble_eq_true rfl) rfl ?_
      refine mf_iload 1 dX11_greatestCommon_25 rfl ?_
      refine mf_istore_n [(3, .int (x1 - x1 / x2 * x2)), (2, .int x2), (5, .int (x1 - x1 / x2 * x2)), (4, .int x3)] dX11_greatestCommon_27 (Nat.le_of_ble_eq_true rfl) rfl ?_
      refine mf_iinc 3 (x3 + 1) [(4, .int (x3 + 1)), (3, .int (x1 - x1 / x2 * x2)), (2, .int x2), (5, .int (x1 - x1 / x2 * x2))] dX11_greatestCommon_28 rfl rfl (Nat.le_of_ble_eq_true rfl) rfl ?_
      refine mf_goto (tgt := 7) dX11_greatestCommon_31 (by decide) ?_
      refine mf_sub [2, 1, 0] rfl ?_
      exact h7 _ _ _
set_option maxRecDepth 100000 in
set_option maxHeartbeats 4000000 in
theorem aX11_mean (d : Nat) (q : m_S) (hq : isW q) (a1 : Int32) : AC rI yX11_mean cX11_mean 5 (some .int) (d + 2) [.ref 0, .int a1] q (fX11_mean a1) := by
  refine ac_of (by decide +kernel) (Nat.le_of_ble_eq_true rfl) ?_
  unfold fX11_mean
  show MF rI (yX11_mean.cls, cX11_mean, 5, (some .int), yX11_mean.name, d + 2, 0, 0) 0 [(0, .ref 0), (1, .int a1)] [] q _
  refine mf_aload_n 0 dX11_mean_0 rfl ?_
  refine mf_getr 11 1 dX11_mean_1 fl_X11_19 (by decide) (by decide) rfl (lf_o (w_lf hq)) (lf_r1 (w_lf hq)) (by decide) ?_
  refine mf_getr 5 0 dX11_mean_4 fl_X11_324 (by decide) (by decide) rfl (pl_o (w_pl hq pl4)) (pl_r0 (w_pl hq pl4)) (by decide) ?_
  refine mf_bipush (v := 6) dX11_mean_7 (by decide) ?_
  refine mf_iald dX11_mean_9 (pl_a0 (w_pl hq pl4)) (fun v1 => ?_)
  refine mf_istore_n [(2, .int v1), (0, .ref 0), (1, .int a1)] dX11_mean_10 (Nat.le_of_ble_eq_true rfl) rfl ?_
  refine mf_iload_n 0 dX11_mean_11 rfl ?_
  refine mf_iconst (v := 1) dX11_mean_12 rfl ?_
  refine mf_icmp_lt (tgt := 25) dX11_mean_13 (by decide) ?_ ?_
  · exact mf_th
  · refine mf_iload_n 2 dX11_mean_16 rfl ?_
    refine mf_if_lt (tgt := 25) dX11_mean_17 (by decide) ?_ ?_
    · exact mf_th
    · refine mf_iload_n 2 dX11_mean_20 rfl ?_
      refine mf_iconst (v := 1) dX11_mean_21 rfl ?_
      refine mf_icmp_le (tgt := 36) dX11_mean_22 (by decide) ?_ ?_
      · refine mf_aload_n 1 dX11_mean_36 rfl ?_
        refine mf_getr 11 3 dX11_mean_37 fl_X11_35 (by decide) (by decide) rfl (lf_o (w_lf hq)) (lf_r3 (w_lf hq)) (by decide) ?_
        refine mf_cVi (rest := []) [] (aX8_waitedByAll (d + 0) q hq 47 st47) mY_X8_waitedByAll dX11_mean_40 ml_X11_329 (sa_o (w_st hq st47)) rfl rfl (Nat.le_of_ble_eq_true rfl) rfl (fun v2 => ?_)
        refine mf_istore_n [(3, .int v2), (2, .int v1), (0, .ref 0), (1, .int a1)] dX11_mean_43 (Nat.le_of_ble_eq_true rfl) rfl ?_
        refine mf_iload_n 0 dX11_mean_44 rfl ?_
        refine mf_iload_n 1 dX11_mean_45 rfl ?_
        refine mf_cSi (rest := []) [.int v2, .int v1] (aX11_greatestCommon (d + 0) q hq v2 v1) mY_X11_greatestCommon dX11_mean_46 ml_X11_332 rfl rfl (Nat.le_of_ble_eq_true rfl) rfl (fun v3 => ?_)
        refine mf_istore [(4, .int v3), (3, .int v2), (2, .int v1), (0, .ref 0), (1, .int a1)] dX11_mean_49 (Nat.le_of_ble_eq_true rfl) rfl ?_
        refine mf_iload 0 dX11_mean_51 rfl ?_
        refine mf_iconst (v := 1) dX11_mean_53 rfl ?_
        refine mf_icmp_ge (tgt := 59) dX11_mean_54 (by decide) ?_ ?_
        · refine mf_iload_n 4 dX11_mean_59 rfl ?_
          refine mf_if_ne (tgt := 70) dX11_mean_60 (by decide) ?_ ?_
          · refine mf_iload_n 2 dX11_mean_70 rfl ?_
            refine mf_iload 0 dX11_mean_71 rfl ?_
            refine mf_idiv dX11_mean_73 ?_
            exact mf_ireturn dX11_mean_74 rfl rfl ⟨rfl, rfl⟩
          · refine mf_iload_n 1 dX11_mean_63 rfl ?_
            refine mf_iload 0 dX11_mean_64 rfl ?_
            refine mf_idiv dX11_mean_66 ?_
            refine mf_goto (tgt := 74) dX11_mean_67 (by decide) ?_
            exact mf_ireturn dX11_mean_74 rfl rfl ⟨rfl, rfl⟩
        · refine mf_iconst (v := -1) dX11_mean_57 rfl ?_
          exact mf_ireturn dX11_mean_58 rfl rfl ⟨rfl, rfl⟩
      · exact mf_th
set_option maxRecDepth 100000 in
set_option maxHeartbeats 4000000 in
theorem aX11_byteAt (d : Nat) (q : m_S) (hq : isW q) (a1 : Int32) : AC rI yX11_byteAt cX11_byteAt 2 (some .int) (d + 2) [.ref 0, .int a1] q (fX11_byteAt a1) := by
  refine ac_of (by decide +kernel) (Nat.le_of_ble_eq_true rfl) ?_
  unfold fX11_byteAt
  show MF rI (yX11_byteAt.cls, cX11_byteAt, 2, (some .int), yX11_byteAt.name, d + 2, 0, 0) 0 [(0, .ref 0), (1, .int a1)] [] q _
  refine mf_aload_n 0 dX11_byteAt_0 rfl ?_
  refine mf_getr 11 12 dX11_byteAt_1 fl_X11_89 (by decide) (by decide) rfl (lf_o (w_lf hq)) (lf_r12 (w_lf hq)) (by decide) ?_
  refine mf_iload_n 1 dX11_byteAt_4 rfl ?_
  refine mf_cVi (rest := []) [.int a1] (aX9_at (d + 0) q hq a1) mY_X9_at dX11_byteAt_5 ml_X11_340 (tg_o (w_tg hq)) rfl rfl (Nat.le_of_ble_eq_true rfl) rfl (fun v1 => ?_)
  exact mf_ireturn dX11_byteAt_8 rfl rfl ⟨rfl, rfl⟩
set_option maxRecDepth 100000 in
set_option maxHeartbeats 4000000 in
theorem aX11_drawn (d : Nat) (q : m_S) (hq : isW q) (a1 : Int32) (a2 : Int32) : AC rI yX11_drawn cX11_drawn 4 (some .int) (d + 7) [.ref 0, .int a1, .int a2] q (fX11_drawn a1 a2) := by
  refine ac_of (by decide +kernel) (Nat.le_of_ble_eq_true rfl) ?_
  unfold fX11_drawn
  show MF rI (yX11_drawn.cls, cX11_drawn, 4, (some .int), yX11_drawn.name, d + 7, 0, 0) 0 [(0, .ref 0), (1, .int a1), (2, .int a2)] [] q _
  refine mf_iload_n 1 dX11_drawn_0 rfl ?_
  refine mf_iconst (v := 1) dX11_drawn_1 rfl ?_
  refine mf_icmp_lt (tgt := 11) dX11_drawn_2 (by decide) ?_ ?_
  · refine mf_iconst (v := -1) dX11_drawn_11 rfl ?_
    exact mf_ireturn dX11_drawn_12 rfl rfl ⟨rfl, rfl⟩
  · refine mf_iload_n 1 dX11_drawn_5 rfl ?_
    refine mf_bipush (v := 60) dX11_drawn_6 (by decide) ?_
    refine mf_icmp_le (tgt := 13) dX11_drawn_8 (by decide) ?_ ?_
    · refine mf_aload_n 0 dX11_drawn_13 rfl ?_
      refine mf_getr 11 5 dX11_drawn_14 fl_X11_45 (by decide) (by decide) rfl (lf_o (w_lf hq)) (lf_r5 (w_lf hq)) (by decide) ?_
      refine mf_aload_n 0 dX11_drawn_17 rfl ?_
      refine mf_getr 11 3 dX11_drawn_18 fl_X11_35 (by decide) (by decide) rfl (lf_o (w_lf hq)) (lf_r3 (w_lf hq)) (by decide) ?_
      refine mf_cVv (rest := []) [.ref 47] (aX3_note (d + 3) q hq) mY_X3_note dX11_drawn_21 ml_X11_257 (hi_o (w_hi hq)) rfl rfl (Nat.le_of_ble_eq_true rfl) rfl (fun _ => ?_)
      refine mf_aload_n 0 dX11_drawn_24 rfl ?_
      refine mf_getr 11 3 dX11_drawn_25 fl_X11_35 (by decide) (by decide) rfl (lf_o (w_lf hq)) (lf_r3 (w_lf hq)) (by decide) ?_
      refine mf_iload_n 1 dX11_drawn_28 rfl ?_
      refine mf_iload_n 2 dX11_drawn_29 rfl ?_
      refine mf_cVi (rest := []) [.int a1, .int a2] (aX8_passDrawn (d + 0) q hq 47 a1 a2 st47) mY_X8_passDrawn dX11_drawn_30 ml_X11_342 (sa_o (w_st hq st47)) rfl rfl (Nat.le_of_ble_eq_true rfl) rfl (fun v1 => ?_)
      refine mf_istore_n [(3, .int v1), (0, .ref 0), (1, .int a1), (2, .int a2)] dX11_drawn_33 (Nat.le_of_ble_eq_true rfl) rfl ?_
      refine mf_iload_n 0 dX11_drawn_34 rfl ?_
      refine mf_if_le (tgt := 45) dX11_drawn_35 (by decide) ?_ ?_
      · refine mf_iload_n 0 dX11_drawn_45 rfl ?_
        exact mf_ireturn dX11_drawn_46 rfl rfl ⟨rfl, rfl⟩
      · refine mf_aload_n 1 dX11_drawn_38 rfl ?_
        refine mf_getr 11 5 dX11_drawn_39 fl_X11_45 (by decide) (by decide) rfl (lf_o (w_lf hq)) (lf_r5 (w_lf hq)) (by decide) ?_
        refine mf_cVv (rest := []) [] (aX3_keepNoted (d + 5) q hq) mY_X3_keepNoted dX11_drawn_42 ml_X11_264 (hi_o (w_hi hq)) rfl rfl (Nat.le_of_ble_eq_true rfl) rfl (fun _ => ?_)
        refine mf_iload_n 0 dX11_drawn_45 rfl ?_
        exact mf_ireturn dX11_drawn_46 rfl rfl ⟨rfl, rfl⟩
    · refine mf_iconst (v := -1) dX11_drawn_11 rfl ?_
      exact mf_ireturn dX11_drawn_12 rfl rfl ⟨rfl, rfl⟩
set_option maxRecDepth 100000 in
set_option maxHeartbeats 4000000 in
theorem aX11_odds (d : Nat) (q : m_S) (hq : isW q) (a1 : Int32) (a2 : Int32) : AC rI yX11_odds cX11_odds 5 (some .int) (d + 7) [.ref 0, .int a1, .int a2] q (fX11_odds a1 a2) := by
  refine ac_of (by decide +kernel) (Nat.le_of_ble_eq_true rfl) ?_
  unfold fX11_odds
  show MF rI (yX11_odds.cls, cX11_odds, 5, (some .int), yX11_odds.name, d + 7, 0, 0) 0 [(0, .ref 0), (1, .int a1), (2, .int a2)] [] q _
  refine mf_iload_n 1 dX11_odds_0 rfl ?_
  refine mf_iconst (v := 1) dX11_odds_1 rfl ?_
  refine mf_icmp_lt (tgt := 11) dX11_odds_2 (by decide) ?_ ?_
  · refine mf_iconst (v := -1) dX11_odds_11 rfl ?_
    exact mf_ireturn dX11_odds_12 rfl rfl ⟨rfl, rfl⟩
  · refine mf_iload_n 1 dX11_odds_5 rfl ?_
    refine mf_bipush (v := 30) dX11_odds_6 (by decide) ?_
    refine mf_icmp_le (tgt := 13) dX11_odds_8 (by decide) ?_ ?_
    · refine mf_iconst (v := 0) dX11_odds_13 rfl ?_
      refine mf_istore_n [(3, .int 0), (0, .ref 0), (1, .int a1), (2, .int a2)] dX11_odds_14 (Nat.le_of_ble_eq_true rfl) rfl ?_
      refine mf_iconst (v := 0) dX11_odds_15 rfl ?_
      refine mf_istore [(4, .int 0), (3, .int 0), (0, .ref 0), (1, .int a1), (2, .int a2)] dX11_odds_16 (Nat.le_of_ble_eq_true rfl) rfl ?_
      refine mf_sub [2, 3, 4, 1, 0] rfl ?_
      refine mf_lz2 (lv := fun x1 x2 => [(0, .ref 0), (1, .int a1), (2, .int a2), (3, .int x1), (4, .int x2)]) (fun L18 h18 x1 x2 => ?_) _ _ _
      show MF rI (yX11_odds.cls, cX11_odds, 5, (some .int), yX11_odds.name, d + 7, 0, 0) 18 [(0, .ref 0), (1, .int a1), (2, .int a2), (3, .int x1), (4, .int x2)] [] q _
      refine mf_iload 4 dX11_odds_18 rfl ?_
      refine mf_iload_n 1 dX11_odds_20 rfl ?_
      refine mf_icmp_ge (tgt := 75) dX11_odds_21 (by decide) ?_ ?_
      · refine mf_iload_n 3 dX11_odds_75 rfl ?_
        exact mf_ireturn dX11_odds_76 rfl rfl ⟨rfl, rfl⟩
      · refine mf_aload_n 0 dX11_odds_24 rfl ?_
        refine mf_getr 11 4 dX11_odds_25 fl_X11_39 (by decide) (by decide) rfl (lf_o (w_lf hq)) (lf_r4 (w_lf hq)) (by decide) ?_
        refine mf_aload_n 0 dX11_odds_28 rfl ?_
        refine mf_getr 11 3 dX11_odds_29 fl_X11_35 (by decide) (by decide) rfl (lf_o (w_lf hq)) (lf_r3 (w_lf hq)) (by decide) ?_
        refine mf_cVv (rest := []) [.ref 47] (aX8_copyFrom (d + 4) q hq 54 47 st54 st47) mY_X8_copyFrom dX11_odds_32 ml_X11_306 (sa_o (w_st hq st54)) rfl rfl (Nat.le_of_ble_eq_true rfl) rfl (fun _ => ?_)
        refine mf_aload_n 0 dX11_odds_35 rfl ?_
        refine mf_getr 11 4 dX11_odds_36 fl_X11_39 (by decide) (by decide) rfl (lf_o (w_lf hq)) (lf_r4 (w_lf hq)) (by decide) ?_
        refine mf_bipush (v := 40) dX11_odds_39 (by decide) ?_
        refine mf_iload_n 2 dX11_odds_41 rfl ?_
        refine mf_iload 4 dX11_odds_42 rfl ?_
        refine mf_iadd dX11_odds_44 ?_
        refine mf_cVi (rest := []) [.int 40, .int (a2 + x2)] (aX8_passDrawn (d + 0) q hq 54 40 (a2 + x2) st54) mY_X8_passDrawn dX11_odds_45 ml_X11_342 (sa_o (w_st hq st54)) rfl rfl (Nat.le_of_ble_eq_true rfl) rfl (fun v3 => ?_)
        refine mf_pop dX11_odds_48 rfl ?_
        refine mf_aload_n 0 dX11_odds_49 rfl ?_
        refine mf_getr 11 4 dX11_odds_50 fl_X11_39 (by decide) (by decide) rfl (lf_o (w_lf hq)) (lf_r4 (w_lf hq)) (by decide) ?_
        refine mf_geti 8 2 dX11_odds_53 fl_X11_250 (by decide) (by decide) rfl (sa_o (w_st hq st54)) (fun v4 => ?_)
        refine mf_aload_n 0 dX11_odds_56 rfl ?_
        refine mf_getr 11 3 dX11_odds_57 fl_X11_35 (by decide) (by decide) rfl (lf_o (w_lf hq)) (lf_r3 (w_lf hq)) (by decide) ?_
        refine mf_geti 8 2 dX11_odds_60 fl_X11_250 (by decide) (by decide) rfl (sa_o (w_st hq st47)) (fun v5 => ?_)
        refine mf_icmp_le (tgt := 69) dX11_odds_63 (by decide) ?_ ?_
        · refine mf_iinc 4 (x2 + 1) [(4, .int (x2 + 1)), (0, .ref 0), (1, .int a1), (2, .int a2), (3, .int x1)] dX11_odds_69 rfl rfl (Nat.le_of_ble_eq_true rfl) rfl ?_
          refine mf_goto (tgt := 18) dX11_odds_72 (by decide) ?_
          refine mf_sub [1, 2, 3, 4, 0] rfl ?_
          exact h18 _ _
        · refine mf_iinc 3 (x1 + 1) [(3, .int (x1 + 1)), (0, .ref 0), (1, .int a1), (2, .int a2), (4, .int x2)] dX11_odds_66 rfl rfl (Nat.le_of_ble_eq_true rfl) rfl ?_
          refine mf_iinc 4 (x2 + 1) [(4, .int (x2 + 1)), (3, .int (x1 + 1)), (0, .ref 0), (1, .int a1), (2, .int a2)] dX11_odds_69 rfl rfl (Nat.le_of_ble_eq_true rfl) rfl ?_
          refine mf_goto (tgt := 18) dX11_odds_72 (by decide) ?_
          refine mf_sub [2, 3, 4, 1, 0] rfl ?_
          exact h18 _ _
    · refine mf_iconst (v := -1) dX11_odds_11 rfl ?_
      exact mf_ireturn dX11_odds_12 rfl rfl ⟨rfl, rfl⟩
