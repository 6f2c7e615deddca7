set_option maxRecDepth 100000 in
set_option maxHeartbeats 4000000 in
theorem aX12_section (d : Nat) (q : m_S) (hM : isM q) (a1 : Int32) (a2 : Int32) : AC rI yX12_section cX12_section 5 (some .int) (d + 4) [.ref 218, .int a1, .int a2] q (fX12_section a1 a2) := by
  refine ac_of (by decide +kernel) (Nat.le_of_ble_eq_true rfl) ?_
  unfold fX12_section
  show MF rI (yX12_section.cls, cX12_section, 5, (some .int), yX12_section.name, d + 4, 0, 0) 0 [(0, .ref 218), (1, .int a1), (2, .int a2)] [] q _
  refine mf_aload_n 0 dX12_section_0 rfl ?_
  refine mf_iconst (v := 0) dX12_section_1 rfl ?_
  refine mf_puti 12 0 dX12_section_2 fl_X12_1 (by decide) (by decide) rfl rfl (mo_o hM) ?_
  refine mf_aload_n 0 dX12_section_5 rfl ?_
  refine mf_iload_n 1 dX12_section_6 rfl ?_
  refine mf_cVi (rest := []) [.int a1] (aX12_isSection (d + 1) q hM a1) mY_X12_isSection dX12_section_7 ml_X12_311 (mo_o hM) rfl rfl (Nat.le_of_ble_eq_true rfl) rfl (fun v1 => ?_)
  refine mf_if_ne (tgt := 15) dX12_section_10 (by decide) ?_ ?_
  · refine mf_iconst (v := 0) dX12_section_15 rfl ?_
    refine mf_istore_n [(3, .int 0), (0, .ref 218), (1, .int a1), (2, .int a2)] dX12_section_16 (Nat.le_of_ble_eq_true rfl) rfl ?_
    refine mf_iload_n 3 dX12_section_17 rfl ?_
    refine mf_iconst (v := 4) dX12_section_18 rfl ?_
    refine mf_jo1 (pj := 66) (lvj := fun y2 => [(0, .ref 218), (1, .int a1), (2, .int a2), (3, .int y2)]) (stj := fun y2 => []) (fun y2 => ?_) (fun J66 hJ66 => ?_)
    · show MF rI (yX12_section.cls, cX12_section, 5, (some .int), yX12_section.name, d + 4, 0, 0) 66 [(0, .ref 218), (1, .int a1), (2, .int a2), (3, .int y2)] [] q _
      refine mf_iload_n 2 dX12_section_66 rfl ?_
      refine mf_iconst (v := 5) dX12_section_67 rfl ?_
      refine mf_jo1 (pj := 116) (lvj := fun y3 => [(0, .ref 218), (1, .int a1), (2, .int a2), (3, .int y3)]) (stj := fun y3 => []) (fun y3 => ?_) (fun J116 hJ116 => ?_)
      · show MF rI (yX12_section.cls, cX12_section, 5, (some .int), yX12_section.name, d + 4, 0, 0) 116 [(0, .ref 218), (1, .int a1), (2, .int a2), (3, .int y3)] [] q _
        refine mf_iload_n 2 dX12_section_116 rfl ?_
        refine mf_case (v := 0) (tgt := 156) (off := 39) dX12_section_117 (by decide) (by decide) (by decide) (by decide) ?_ (fun t117_0 => ?_)
        · refine mf_aload_n 0 dX12_section_156 rfl ?_
          refine mf_getr 12 6 dX12_section_157 fl_X12_33 (by decide) (by decide) rfl (mo_o hM) (mo_r6 hM) (by decide) ?_
          refine mf_bipush (v := 8) dX12_section_160 (by decide) ?_
          refine mf_iload_n 1 dX12_section_162 rfl ?_
          refine mf_iadd dX12_section_163 ?_
          refine mf_iald dX12_section_164 (mo_a6 hM) (fun v4 => ?_)
          exact mf_ireturn dX12_section_165 rfl rfl ⟨rfl, rfl⟩
        refine mf_case (v := 1) (tgt := 166) (off := 49) dX12_section_117 (by decide) (by decide) (by decide) (by decide) ?_ (fun t117_1 => ?_)
        · refine mf_aload_n 0 dX12_section_166 rfl ?_
          refine mf_iload_n 1 dX12_section_167 rfl ?_
          refine mf_iconst (v := -1) dX12_section_168 rfl ?_
          refine mf_cVi (rest := []) [.int a1, .int (-1)] (aX12_trainIn (d + 2) q hM a1 (-1)) mY_X12_trainIn dX12_section_169 ml_X12_298 (mo_o hM) rfl rfl (Nat.le_of_ble_eq_true rfl) rfl (fun v5 => ?_)
          exact mf_ireturn dX12_section_172 rfl rfl ⟨rfl, rfl⟩
        refine mf_case (v := 2) (tgt := 173) (off := 56) dX12_section_117 (by decide) (by decide) (by decide) (by decide) ?_ (fun t117_2 => ?_)
        · refine mf_aload_n 0 dX12_section_173 rfl ?_
          refine mf_iload_n 1 dX12_section_174 rfl ?_
          refine mf_cVi (rest := []) [.int a1] (aX12_showsFull (d + 0) q hM a1) mY_X12_showsFull dX12_section_175 ml_X12_314 (mo_o hM) rfl rfl (Nat.le_of_ble_eq_true rfl) rfl (fun v6 => ?_)
          refine mf_if_eq (tgt := 185) dX12_section_178 (by decide) ?_ ?_
          · refine mf_iconst (v := 0) dX12_section_185 rfl ?_
            exact mf_ireturn dX12_section_186 rfl rfl ⟨rfl, rfl⟩
          · refine mf_iconst (v := 1) dX12_section_181 rfl ?_
            refine mf_goto (tgt := 186) dX12_section_182 (by decide) ?_
            exact mf_ireturn dX12_section_186 rfl rfl ⟨rfl, rfl⟩
        refine mf_case (v := 3) (tgt := 187) (off := 70) dX12_section_117 (by decide) (by decide) (by decide) (by decide) ?_ (fun t117_3 => ?_)
        · refine mf_aload_n 0 dX12_section_187 rfl ?_
          refine mf_getr 12 6 dX12_section_188 fl_X12_33 (by decide) (by decide) rfl (mo_o hM) (mo_r6 hM) (by decide) ?_
          refine mf_sipush (v := 259) dX12_section_191 (by decide) ?_
          refine mf_iload_n 1 dX12_section_194 rfl ?_
          refine mf_iadd dX12_section_195 ?_
          refine mf_iald dX12_section_196 (mo_a6 hM) (fun v7 => ?_)
          exact mf_ireturn dX12_section_197 rfl rfl ⟨rfl, rfl⟩
        refine mf_case (v := 4) (tgt := 198) (off := 81) dX12_section_117 (by decide) (by decide) (by decide) (by decide) ?_ (fun t117_4 => ?_)
        · refine mf_iload_n 3 dX12_section_198 rfl ?_
          exact mf_ireturn dX12_section_199 rfl rfl ⟨rfl, rfl⟩
        refine mf_case (v := 5) (tgt := 198) (off := 81) dX12_section_117 (by decide) (by decide) (by decide) (by decide) ?_ (fun t117_5 => ?_)
        · refine mf_iload_n 3 dX12_section_198 rfl ?_
          exact mf_ireturn dX12_section_199 rfl rfl ⟨rfl, rfl⟩
        refine mf_dflt (tgt := 200) dX12_section_117 (by have := lv_neT t117_0 (a := 0) (by decide); have := lv_neT t117_1 (a := 1) (by decide); have := lv_neT t117_2 (a := 2) (by decide); have := lv_neT t117_3 (a := 3) (by decide); have := lv_neT t117_4 (a := 4) (by decide); have := lv_neT t117_5 (a := 5) (by decide); omega) (by decide) ?_
        refine mf_iconst (v := -1) dX12_section_200 rfl ?_
        exact mf_ireturn dX12_section_201 rfl rfl ⟨rfl, rfl⟩
      refine mf_icmp_ne (tgt := 116) dX12_section_68 (by decide) ?_ ?_
      · exact hJ116 _
      · refine mf_iconst (v := 0) dX12_section_71 rfl ?_
        refine mf_istore [(4, .int 0), (0, .ref 218), (1, .int a1), (2, .int a2), (3, .int y2)] dX12_section_72 (Nat.le_of_ble_eq_true rfl) rfl ?_
        refine mf_sub [1, 2, 3, 4, 0] rfl ?_
        refine mf_lz2 (lv := fun x8 x9 => [(0, .ref 218), (1, .int a1), (2, .int a2), (3, .int x8), (4, .int x9)]) (fun L74 h74 x8 x9 => ?_) _ _ _
        show MF rI (yX12_section.cls, cX12_section, 5, (some .int), yX12_section.name, d + 4, 0, 0) 74 [(0, .ref 218), (1, .int a1), (2, .int a2), (3, .int x8), (4, .int x9)] [] q _
        refine mf_iload 4 dX12_section_74 rfl ?_
        refine mf_aload_n 0 dX12_section_76 rfl ?_
        refine mf_getr 12 6 dX12_section_77 fl_X12_33 (by decide) (by decide) rfl (mo_o hM) (mo_r6 hM) (by decide) ?_
        refine mf_iconst (v := 1) dX12_section_80 rfl ?_
        refine mf_iald dX12_section_81 (mo_a6 hM) (fun v10 => ?_)
        refine mf_icmp_ge (tgt := 116) dX12_section_82 (by decide) ?_ ?_
        · refine mf_sub [0, 1, 2, 3] rfl ?_
          exact hJ116 _
        · refine mf_iload_n 3 dX12_section_85 rfl ?_
          refine mf_aload_n 0 dX12_section_86 rfl ?_
          refine mf_getr 12 6 dX12_section_87 fl_X12_33 (by decide) (by decide) rfl (mo_o hM) (mo_r6 hM) (by decide) ?_
          refine mf_bipush (v := 20) dX12_section_90 (by decide) ?_
          refine mf_iload 4 dX12_section_92 rfl ?_
          refine mf_iadd dX12_section_94 ?_
          refine mf_iald dX12_section_95 (mo_a6 hM) (fun v11 => ?_)
          refine mf_iload_n 1 dX12_section_96 rfl ?_
          refine mf_icmp_ne (tgt := 107) dX12_section_97 (by decide) ?_ ?_
          · refine mf_iconst (v := 0) dX12_section_107 rfl ?_
            refine mf_ior dX12_section_108 ?_
            refine mf_istore_n [(3, .int (x8 ||| 0)), (0, .ref 218), (1, .int a1), (2, .int a2), (4, .int x9)] dX12_section_109 (Nat.le_of_ble_eq_true rfl) rfl ?_
            refine mf_iinc 4 (x9 + 1) [(4, .int (x9 + 1)), (3, .int (x8 ||| 0)), (0, .ref 218), (1, .int a1), (2, .int a2)] dX12_section_110 rfl rfl (Nat.le_of_ble_eq_true rfl) rfl ?_
            refine mf_goto (tgt := 74) dX12_section_113 (by decide) ?_
            refine mf_sub [2, 3, 4, 1, 0] rfl ?_
            exact h74 _ _
          · refine mf_iconst (v := 1) dX12_section_100 rfl ?_
            refine mf_iload 4 dX12_section_101 rfl ?_
            refine mf_ishl dX12_section_103 ?_
            refine mf_goto (tgt := 108) dX12_section_104 (by decide) ?_
            refine mf_ior dX12_section_108 ?_
            refine mf_istore_n [(3, .int (x8 ||| (1 <<< (x9 &&& 31)))), (0, .ref 218), (1, .int a1), (2, .int a2), (4, .int x9)] dX12_section_109 (Nat.le_of_ble_eq_true rfl) rfl ?_
            refine mf_iinc 4 (x9 + 1) [(4, .int (x9 + 1)), (3, .int (x8 ||| (1 <<< (x9 &&& 31)))), (0, .ref 218), (1, .int a1), (2, .int a2)] dX12_section_110 rfl rfl (Nat.le_of_ble_eq_true rfl) rfl ?_
            refine mf_goto (tgt := 74) dX12_section_113 (by decide) ?_
            refine mf_sub [2, 3, 4, 1, 0] rfl ?_
            exact h74 _ _
    refine mf_icmp_ne (tgt := 66) dX12_section_19 (by decide) ?_ ?_
    · refine mf_sub [1, 2, 3, 0] rfl ?_
      exact hJ66 _
    · refine mf_iconst (v := 0) dX12_section_22 rfl ?_
      refine mf_istore [(4, .int 0), (3, .int 0), (0, .ref 218), (1, .int a1), (2, .int a2)] dX12_section_23 (Nat.le_of_ble_eq_true rfl) rfl ?_
      refine mf_sub [2, 3, 4, 1, 0] rfl ?_
      refine mf_lz2 (lv := fun x12 x13 => [(0, .ref 218), (1, .int a1), (2, .int a2), (3, .int x12), (4, .int x13)]) (fun L25 h25 x12 x13 => ?_) _ _ _
      show MF rI (yX12_section.cls, cX12_section, 5, (some .int), yX12_section.name, d + 4, 0, 0) 25 [(0, .ref 218), (1, .int a1), (2, .int a2), (3, .int x12), (4, .int x13)] [] q _
      refine mf_iload 4 dX12_section_25 rfl ?_
      refine mf_aload_n 0 dX12_section_27 rfl ?_
      refine mf_getr 12 6 dX12_section_28 fl_X12_33 (by decide) (by decide) rfl (mo_o hM) (mo_r6 hM) (by decide) ?_
      refine mf_iconst (v := 4) dX12_section_31 rfl ?_
      refine mf_iald dX12_section_32 (mo_a6 hM) (fun v14 => ?_)
      refine mf_icmp_ge (tgt := 66) dX12_section_33 (by decide) ?_ ?_
      · refine mf_sub [0, 1, 2, 3] rfl ?_
        exact hJ66 _
      · refine mf_iload_n 3 dX12_section_36 rfl ?_
        refine mf_aload_n 0 dX12_section_37 rfl ?_
        refine mf_iload 4 dX12_section_38 rfl ?_
        refine mf_cVi (rest := [.int x12]) [.int x13] (aX12_sectionsOf (d + 2) q hM x13) mY_X12_sectionsOf dX12_section_40 ml_X12_304 (mo_o hM) rfl rfl (Nat.le_of_ble_eq_true rfl) rfl (fun v15 => ?_)
        refine mf_iload_n 1 dX12_section_43 rfl ?_
        refine mf_cSi (rest := [.int x12]) [.int v15, .int a1] (aX12_bitOf (d + 2) q v15 a1) mY_X12_bitOf dX12_section_44 ml_X12_280 rfl rfl (Nat.le_of_ble_eq_true rfl) rfl (fun v16 => ?_)
        refine mf_if_eq (tgt := 57) dX12_section_47 (by decide) ?_ ?_
        · refine mf_iconst (v := 0) dX12_section_57 rfl ?_
          refine mf_ior dX12_section_58 ?_
          refine mf_istore_n [(3, .int (x12 ||| 0)), (0, .ref 218), (1, .int a1), (2, .int a2), (4, .int x13)] dX12_section_59 (Nat.le_of_ble_eq_true rfl) rfl ?_
          refine mf_iinc 4 (x13 + 1) [(4, .int (x13 + 1)), (3, .int (x12 ||| 0)), (0, .ref 218), (1, .int a1), (2, .int a2)] dX12_section_60 rfl rfl (Nat.le_of_ble_eq_true rfl) rfl ?_
          refine mf_goto (tgt := 25) dX12_section_63 (by decide) ?_
          refine mf_sub [2, 3, 4, 1, 0] rfl ?_
          exact h25 _ _
        · refine mf_iconst (v := 1) dX12_section_50 rfl ?_
          refine mf_iload 4 dX12_section_51 rfl ?_
          refine mf_ishl dX12_section_53 ?_
          refine mf_goto (tgt := 58) dX12_section_54 (by decide) ?_
          refine mf_ior dX12_section_58 ?_
          refine mf_istore_n [(3, .int (x12 ||| (1 <<< (x13 &&& 31)))), (0, .ref 218), (1, .int a1), (2, .int a2), (4, .int x13)] dX12_section_59 (Nat.le_of_ble_eq_true rfl) rfl ?_
          refine mf_iinc 4 (x13 + 1) [(4, .int (x13 + 1)), (3, .int (x12 ||| (1 <<< (x13 &&& 31)))), (0, .ref 218), (1, .int a1), (2, .int a2)] dX12_section_60 rfl rfl (Nat.le_of_ble_eq_true rfl) rfl ?_
          refine mf_goto (tgt := 25) dX12_section_63 (by decide) ?_
          refine mf_sub [2, 3, 4, 1, 0] rfl ?_
          exact h25 _ _
  · refine mf_iconst (v := -1) dX12_section_13 rfl ?_
    exact mf_ireturn dX12_section_14 rfl rfl ⟨rfl, rfl⟩
set_option maxRecDepth 100000 in
set_option maxHeartbeats 4000000 in
theorem aX12_points (d : Nat) (q : m_S) (hM : isM q) (a1 : Int32) (a2 : Int32) : AC rI yX12_points cX12_points 3 (some .int) (d + 3) [.ref 218, .int a1, .int a2] q (fX12_points a1 a2) := by
  refine ac_of (by decide +kernel) (Nat.le_of_ble_eq_true rfl) ?_
  unfold fX12_points
  show MF rI (yX12_points.cls, cX12_points, 3, (some .int), yX12_points.name, d + 3, 0, 0) 0 [(0, .ref 218), (1, .int a1), (2, .int a2)] [] q _
  refine mf_aload_n 0 dX12_points_0 rfl ?_
  refine mf_iconst (v := 0) dX12_points_1 rfl ?_
  refine mf_puti 12 0 dX12_points_2 fl_X12_1 (by decide) (by decide) rfl rfl (mo_o hM) ?_
  refine mf_aload_n 0 dX12_points_5 rfl ?_
  refine mf_iload_n 1 dX12_points_6 rfl ?_
  refine mf_cVi (rest := []) [.int a1] (aX12_arePoints (d + 0) q hM a1) mY_X12_arePoints dX12_points_7 ml_X12_317 (mo_o hM) rfl rfl (Nat.le_of_ble_eq_true rfl) rfl (fun v1 => ?_)
  refine mf_if_ne (tgt := 15) dX12_points_10 (by decide) ?_ ?_
  · refine mf_iload_n 2 dX12_points_15 rfl ?_
    refine mf_if_ne (tgt := 31) dX12_points_16 (by decide) ?_ ?_
    · refine mf_iload_n 2 dX12_points_31 rfl ?_
      refine mf_iconst (v := 1) dX12_points_32 rfl ?_
      refine mf_icmp_ne (tgt := 51) dX12_points_33 (by decide) ?_ ?_
      · refine mf_iload_n 2 dX12_points_51 rfl ?_
        refine mf_iconst (v := 2) dX12_points_52 rfl ?_
        refine mf_icmp_ne (tgt := 67) dX12_points_53 (by decide) ?_ ?_
        · refine mf_iload_n 2 dX12_points_67 rfl ?_
          refine mf_iconst (v := 3) dX12_points_68 rfl ?_
          refine mf_icmp_ne (tgt := 83) dX12_points_69 (by decide) ?_ ?_
          · refine mf_iconst (v := -1) dX12_points_83 rfl ?_
            exact mf_ireturn dX12_points_84 rfl rfl ⟨rfl, rfl⟩
          · refine mf_aload_n 0 dX12_points_72 rfl ?_
            refine mf_iload_n 1 dX12_points_73 rfl ?_
            refine mf_sipush (v := 196) dX12_points_74 (by decide) ?_
            refine mf_cVi (rest := []) [.int a1, .int 196] (aX12_wanting (d + 0) q hM a1 196) mY_X12_wanting dX12_points_77 ml_X12_320 (mo_o hM) rfl rfl (Nat.le_of_ble_eq_true rfl) rfl (fun v2 => ?_)
            refine mf_goto (tgt := 84) dX12_points_80 (by decide) ?_
            exact mf_ireturn dX12_points_84 rfl rfl ⟨rfl, rfl⟩
        · refine mf_aload_n 0 dX12_points_56 rfl ?_
          refine mf_iload_n 1 dX12_points_57 rfl ?_
          refine mf_sipush (v := 186) dX12_points_58 (by decide) ?_
          refine mf_cVi (rest := []) [.int a1, .int 186] (aX12_wanting (d + 0) q hM a1 186) mY_X12_wanting dX12_points_61 ml_X12_320 (mo_o hM) rfl rfl (Nat.le_of_ble_eq_true rfl) rfl (fun v3 => ?_)
          refine mf_goto (tgt := 84) dX12_points_64 (by decide) ?_
          exact mf_ireturn dX12_points_84 rfl rfl ⟨rfl, rfl⟩
      · refine mf_aload_n 0 dX12_points_36 rfl ?_
        refine mf_getr 12 6 dX12_points_37 fl_X12_33 (by decide) (by decide) rfl (mo_o hM) (mo_r6 hM) (by decide) ?_
        refine mf_sipush (v := 228) dX12_points_40 (by decide) ?_
        refine mf_iald dX12_points_43 (mo_a6 hM) (fun v4 => ?_)
        refine mf_iload_n 1 dX12_points_44 rfl ?_
        refine mf_ishr dX12_points_45 ?_
        refine mf_iconst (v := 1) dX12_points_46 rfl ?_
        refine mf_iand dX12_points_47 ?_
        refine mf_goto (tgt := 84) dX12_points_48 (by decide) ?_
        exact mf_ireturn dX12_points_84 rfl rfl ⟨rfl, rfl⟩
    · refine mf_aload_n 0 dX12_points_19 rfl ?_
      refine mf_getr 12 6 dX12_points_20 fl_X12_33 (by decide) (by decide) rfl (mo_o hM) (mo_r6 hM) (by decide) ?_
      refine mf_bipush (v := 20) dX12_points_23 (by decide) ?_
      refine mf_iload_n 1 dX12_points_25 rfl ?_
      refine mf_iadd dX12_points_26 ?_
      refine mf_iald dX12_points_27 (mo_a6 hM) (fun v5 => ?_)
      refine mf_goto (tgt := 84) dX12_points_28 (by decide) ?_
      exact mf_ireturn dX12_points_84 rfl rfl ⟨rfl, rfl⟩
  · refine mf_iconst (v := -1) dX12_points_13 rfl ?_
    exact mf_ireturn dX12_points_14 rfl rfl ⟨rfl, rfl⟩
set_option maxRecDepth 100000 in
set_option maxHeartbeats 4000000 in
theorem aX12_setOf (d : Nat) (q : m_S) (hM : isM q) (a1 : Int32) : AC rI yX12_setOf cX12_setOf 3 (some .int) (d + 1) [.ref 218, .int a1] q (fX12_setOf a1) := by
  refine ac_of (by decide +kernel) (Nat.le_of_ble_eq_true rfl) ?_
  unfold fX12_setOf
  show MF rI (yX12_setOf.cls, cX12_setOf, 3, (some .int), yX12_setOf.name, d + 1, 0, 0) 0 [(0, .ref 218), (1, .int a1)] [] q _
  refine mf_iconst (v := 0) dX12_setOf_0 rfl ?_
  refine mf_istore_n [(2, .int 0), (0, .ref 218), (1, .int a1)] dX12_setOf_1 (Nat.le_of_ble_eq_true rfl) rfl ?_
  refine mf_sub [1, 2, 0] rfl ?_
  refine mf_lz1 (lv := fun x1 => [(0, .ref 218), (1, .int a1), (2, .int x1)]) (fun L2 h2 x1 => ?_) _ _
  show MF rI (yX12_setOf.cls, cX12_setOf, 3, (some .int), yX12_setOf.name, d + 1, 0, 0) 2 [(0, .ref 218), (1, .int a1), (2, .int x1)] [] q _
  refine mf_iload_n 2 dX12_setOf_2 rfl ?_
  refine mf_aload_n 0 dX12_setOf_3 rfl ?_
  refine mf_getr 12 6 dX12_setOf_4 fl_X12_33 (by decide) (by decide) rfl (mo_o hM) (mo_r6 hM) (by decide) ?_
  refine mf_iconst (v := 4) dX12_setOf_7 rfl ?_
  refine mf_iald dX12_setOf_8 (mo_a6 hM) (fun v2 => ?_)
  refine mf_icmp_ge (tgt := 47) dX12_setOf_9 (by decide) ?_ ?_
  · refine mf_iconst (v := -1) dX12_setOf_47 rfl ?_
    exact mf_ireturn dX12_setOf_48 rfl rfl ⟨rfl, rfl⟩
  · refine mf_aload_n 0 dX12_setOf_12 rfl ?_
    refine mf_getr 12 6 dX12_setOf_13 fl_X12_33 (by decide) (by decide) rfl (mo_o hM) (mo_r6 hM) (by decide) ?_
    refine mf_bipush (v := 106) dX12_setOf_16 (by decide) ?_
    refine mf_iload_n 2 dX12_setOf_18 rfl ?_
    refine mf_iadd dX12_setOf_19 ?_
    refine mf_iald dX12_setOf_20 (mo_a6 hM) (fun v3 => ?_)
    refine mf_iload_n 1 dX12_setOf_21 rfl ?_
    refine mf_icmp_ne (tgt := 41) dX12_setOf_22 (by decide) ?_ ?_
    · refine mf_iinc 2 (x1 + 1) [(2, .int (x1 + 1)), (0, .ref 218), (1, .int a1)] dX12_setOf_41 rfl rfl (Nat.le_of_ble_eq_true rfl) rfl ?_
      refine mf_goto (tgt := 2) dX12_setOf_44 (by decide) ?_
      refine mf_sub [1, 2, 0] rfl ?_
      exact h2 _
    · refine mf_aload_n 0 dX12_setOf_25 rfl ?_
      refine mf_getr 12 6 dX12_setOf_26 fl_X12_33 (by decide) (by decide) rfl (mo_o hM) (mo_r6 hM) (by decide) ?_
      refine mf_sipush (v := 229) dX12_setOf_29 (by decide) ?_
      refine mf_iload_n 2 dX12_setOf_32 rfl ?_
      refine mf_iadd dX12_setOf_33 ?_
      refine mf_iald dX12_setOf_34 (mo_a6 hM) (fun v4 => ?_)
      refine mf_iconst (v := 1) dX12_setOf_35 rfl ?_
      refine mf_icmp_ne (tgt := 41) dX12_setOf_36 (by decide) ?_ ?_
      · refine mf_iinc 2 (x1 + 1) [(2, .int (x1 + 1)), (0, .ref 218), (1, .int a1)] dX12_setOf_41 rfl rfl (Nat.le_of_ble_eq_true rfl) rfl ?_
        refine mf_goto (tgt := 2) dX12_setOf_44 (by decide) ?_
        refine mf_sub [1, 2, 0] rfl ?_
        exact h2 _
      · refine mf_iload_n 2 dX12_setOf_39 rfl ?_
        exact mf_ireturn dX12_setOf_40 rfl rfl ⟨rfl, rfl⟩
set_option maxRecDepth 100000 in
set_option maxHeartbeats 4000000 in
theorem aX12_signal (d : Nat) (q : m_S) (hM : isM q) (a1 : Int32) (a2 : Int32) : AC rI yX12_signal cX12_signal 3 (some .int) (d + 2) [.ref 218, .int a1, .int a2] q (fX12_signal a1 a2) := by
  refine ac_of (by decide +kernel) (Nat.le_of_ble_eq_true rfl) ?_
  unfold fX12_signal
  show MF rI (yX12_signal.cls, cX12_signal, 3, (some .int), yX12_signal.name, d + 2, 0, 0) 0 [(0, .ref 218), (1, .int a1), (2, .int a2)] [] q _
  refine mf_aload_n 0 dX12_signal_0 rfl ?_
  refine mf_iconst (v := 0) dX12_signal_1 rfl ?_
  refine mf_puti 12 0 dX12_signal_2 fl_X12_1 (by decide) (by decide) rfl rfl (mo_o hM) ?_
  refine mf_iload_n 1 dX12_signal_5 rfl ?_
  refine mf_iconst (v := 0) dX12_signal_6 rfl ?_
  refine mf_aload_n 0 dX12_signal_7 rfl ?_
  refine mf_getr 12 6 dX12_signal_8 fl_X12_33 (by decide) (by decide) rfl (mo_o hM) (mo_r6 hM) (by decide) ?_
  refine mf_iconst (v := 3) dX12_signal_11 rfl ?_
  refine mf_iald dX12_signal_12 (mo_a6 hM) (fun v1 => ?_)
  refine mf_iconst (v := 1) dX12_signal_13 rfl ?_
  refine mf_isub dX12_signal_14 ?_
  refine mf_cSi (rest := []) [.int a1, .int 0, .int (v1 - 1)] (aX12_isIn (d + 0) q a1 0 (v1 - 1)) mY_X12_isIn dX12_signal_15 ml_X12_211 rfl rfl (Nat.le_of_ble_eq_true rfl) rfl (fun v2 => ?_)
  refine mf_if_ne (tgt := 23) dX12_signal_18 (by decide) ?_ ?_
  · refine mf_iload_n 2 dX12_signal_23 rfl ?_
    refine mf_if_ne (tgt := 39) dX12_signal_24 (by decide) ?_ ?_
    · refine mf_iload_n 2 dX12_signal_39 rfl ?_
      refine mf_iconst (v := 1) dX12_signal_40 rfl ?_
      refine mf_icmp_ne (tgt := 56) dX12_signal_41 (by decide) ?_ ?_
      · refine mf_iload_n 2 dX12_signal_56 rfl ?_
        refine mf_iconst (v := 2) dX12_signal_57 rfl ?_
        refine mf_icmp_ne (tgt := 77) dX12_signal_58 (by decide) ?_ ?_
        · refine mf_iload_n 2 dX12_signal_77 rfl ?_
          refine mf_iconst (v := 3) dX12_signal_78 rfl ?_
          refine mf_icmp_ne (tgt := 90) dX12_signal_79 (by decide) ?_ ?_
          · refine mf_iconst (v := -1) dX12_signal_90 rfl ?_
            exact mf_ireturn dX12_signal_91 rfl rfl ⟨rfl, rfl⟩
          · refine mf_aload_n 0 dX12_signal_82 rfl ?_
            refine mf_iload_n 1 dX12_signal_83 rfl ?_
            refine mf_cVi (rest := []) [.int a1] (aX12_routesOf (d + 0) q hM a1) mY_X12_routesOf dX12_signal_84 ml_X12_326 (mo_o hM) rfl rfl (Nat.le_of_ble_eq_true rfl) rfl (fun v3 => ?_)
            refine mf_goto (tgt := 91) dX12_signal_87 (by decide) ?_
            exact mf_ireturn dX12_signal_91 rfl rfl ⟨rfl, rfl⟩
        · refine mf_aload_n 0 dX12_signal_61 rfl ?_
          refine mf_iload_n 1 dX12_signal_62 rfl ?_
          refine mf_cVi (rest := []) [.int a1] (aX12_setOf (d + 0) q hM a1) mY_X12_setOf dX12_signal_63 ml_X12_323 (mo_o hM) rfl rfl (Nat.le_of_ble_eq_true rfl) rfl (fun v4 => ?_)
          refine mf_if_ge (tgt := 73) dX12_signal_66 (by decide) ?_ ?_
          · refine mf_iconst (v := 1) dX12_signal_73 rfl ?_
            refine mf_goto (tgt := 91) dX12_signal_74 (by decide) ?_
            exact mf_ireturn dX12_signal_91 rfl rfl ⟨rfl, rfl⟩
          · refine mf_iconst (v := 0) dX12_signal_69 rfl ?_
            refine mf_goto (tgt := 91) dX12_signal_70 (by decide) ?_
            exact mf_ireturn dX12_signal_91 rfl rfl ⟨rfl, rfl⟩
      · refine mf_aload_n 0 dX12_signal_44 rfl ?_
        refine mf_getr 12 6 dX12_signal_45 fl_X12_33 (by decide) (by decide) rfl (mo_o hM) (mo_r6 hM) (by decide) ?_
        refine mf_bipush (v := 98) dX12_signal_48 (by decide) ?_
        refine mf_iload_n 1 dX12_signal_50 rfl ?_
        refine mf_iadd dX12_signal_51 ?_
        refine mf_iald dX12_signal_52 (mo_a6 hM) (fun v5 => ?_)
        refine mf_goto (tgt := 91) dX12_signal_53 (by decide) ?_
        exact mf_ireturn dX12_signal_91 rfl rfl ⟨rfl, rfl⟩
    · refine mf_aload_n 0 dX12_signal_27 rfl ?_
      refine mf_getr 12 6 dX12_signal_28 fl_X12_33 (by decide) (by decide) rfl (mo_o hM) (mo_r6 hM) (by decide) ?_
      refine mf_bipush (v := 90) dX12_signal_31 (by decide) ?_
      refine mf_iload_n 1 dX12_signal_33 rfl ?_
      refine mf_iadd dX12_signal_34 ?_
      refine mf_iald dX12_signal_35 (mo_a6 hM) (fun v6 => ?_)
      refine mf_goto (tgt := 91) dX12_signal_36 (by decide) ?_
      exact mf_ireturn dX12_signal_91 rfl rfl ⟨rfl, rfl⟩
  · refine mf_iconst (v := -1) dX12_signal_21 rfl ?_
    exact mf_ireturn dX12_signal_22 rfl rfl ⟨rfl, rfl⟩
set_option maxRecDepth 100000 in
set_option maxHeartbeats 4000000 in
theorem aX12_route (d : Nat) (q : m_S) (hM : isM q) (a1 : Int32) (a2 : Int32) : AC rI yX12_route cX12_route 3 (some .int) (d + 4) [.ref 218, .int a1, .int a2] q (fX12_route a1 a2) := by
  refine ac_of (by decide +kernel) (Nat.le_of_ble_eq_true rfl) ?_
  unfold fX12_route
  show MF rI (yX12_route.cls, cX12_route, 3, (some .int), yX12_route.name, d + 4, 0, 0) 0 [(0, .ref 218), (1, .int a1), (2, .int a2)] [] q _
  refine mf_aload_n 0 dX12_route_0 rfl ?_
  refine mf_iconst (v := 0) dX12_route_1 rfl ?_
  refine mf_puti 12 0 dX12_route_2 fl_X12_1 (by decide) (by decide) rfl rfl (mo_o hM) ?_
  refine mf_aload_n 0 dX12_route_5 rfl ?_
  refine mf_iload_n 1 dX12_route_6 rfl ?_
  refine mf_cVi (rest := []) [.int a1] (aX12_isRoute (d + 1) q hM a1) mY_X12_isRoute dX12_route_7 ml_X12_329 (mo_o hM) rfl rfl (Nat.le_of_ble_eq_true rfl) rfl (fun v1 => ?_)
  refine mf_if_ne (tgt := 15) dX12_route_10 (by decide) ?_ ?_
  · refine mf_iload_n 2 dX12_route_15 rfl ?_
    refine mf_case (v := 0) (tgt := 68) (off := 52) dX12_route_16 (by decide) (by decide) (by decide) (by decide) ?_ (fun t16_0 => ?_)
    · refine mf_aload_n 0 dX12_route_68 rfl ?_
      refine mf_getr 12 6 dX12_route_69 fl_X12_33 (by decide) (by decide) rfl (mo_o hM) (mo_r6 hM) (by decide) ?_
      refine mf_bipush (v := 106) dX12_route_72 (by decide) ?_
      refine mf_iload_n 1 dX12_route_74 rfl ?_
      refine mf_iadd dX12_route_75 ?_
      refine mf_iald dX12_route_76 (mo_a6 hM) (fun v2 => ?_)
      exact mf_ireturn dX12_route_77 rfl rfl ⟨rfl, rfl⟩
    refine mf_case (v := 1) (tgt := 78) (off := 62) dX12_route_16 (by decide) (by decide) (by decide) (by decide) ?_ (fun t16_1 => ?_)
    · refine mf_aload_n 0 dX12_route_78 rfl ?_
      refine mf_getr 12 6 dX12_route_79 fl_X12_33 (by decide) (by decide) rfl (mo_o hM) (mo_r6 hM) (by decide) ?_
      refine mf_sipush (v := 229) dX12_route_82 (by decide) ?_
      refine mf_iload_n 1 dX12_route_85 rfl ?_
      refine mf_iadd dX12_route_86 ?_
      refine mf_iald dX12_route_87 (mo_a6 hM) (fun v3 => ?_)
      exact mf_ireturn dX12_route_88 rfl rfl ⟨rfl, rfl⟩
    refine mf_case (v := 2) (tgt := 89) (off := 73) dX12_route_16 (by decide) (by decide) (by decide) (by decide) ?_ (fun t16_2 => ?_)
    · refine mf_aload_n 0 dX12_route_89 rfl ?_
      refine mf_getr 12 6 dX12_route_90 fl_X12_33 (by decide) (by decide) rfl (mo_o hM) (mo_r6 hM) (by decide) ?_
      refine mf_bipush (v := 116) dX12_route_93 (by decide) ?_
      refine mf_iload_n 1 dX12_route_95 rfl ?_
      refine mf_iadd dX12_route_96 ?_
      refine mf_iald dX12_route_97 (mo_a6 hM) (fun v4 => ?_)
      exact mf_ireturn dX12_route_98 rfl rfl ⟨rfl, rfl⟩
    refine mf_case (v := 3) (tgt := 99) (off := 83) dX12_route_16 (by decide) (by decide) (by decide) (by decide) ?_ (fun t16_3 => ?_)
    · refine mf_aload_n 0 dX12_route_99 rfl ?_
      refine mf_getr 12 6 dX12_route_100 fl_X12_33 (by decide) (by decide) rfl (mo_o hM) (mo_r6 hM) (by decide) ?_
      refine mf_sipush (v := 206) dX12_route_103 (by decide) ?_
      refine mf_iload_n 1 dX12_route_106 rfl ?_
      refine mf_iadd dX12_route_107 ?_
      refine mf_iald dX12_route_108 (mo_a6 hM) (fun v5 => ?_)
      exact mf_ireturn dX12_route_109 rfl rfl ⟨rfl, rfl⟩
    refine mf_case (v := 4) (tgt := 110) (off := 94) dX12_route_16 (by decide) (by decide) (by decide) (by decide) ?_ (fun t16_4 => ?_)
    · refine mf_aload_n 0 dX12_route_110 rfl ?_
      refine mf_iload_n 1 dX12_route_111 rfl ?_
      refine mf_cVi (rest := []) [.int a1] (aX12_conflictsOf (d + 0) q hM a1) mY_X12_conflictsOf dX12_route_112 ml_X12_332 (mo_o hM) rfl rfl (Nat.le_of_ble_eq_true rfl) rfl (fun v6 => ?_)
      exact mf_ireturn dX12_route_115 rfl rfl ⟨rfl, rfl⟩
    refine mf_case (v := 5) (tgt := 116) (off := 100) dX12_route_16 (by decide) (by decide) (by decide) (by decide) ?_ (fun t16_5 => ?_)
    · refine mf_aload_n 0 dX12_route_116 rfl ?_
      refine mf_getr 12 6 dX12_route_117 fl_X12_33 (by decide) (by decide) rfl (mo_o hM) (mo_r6 hM) (by decide) ?_
      refine mf_sipush (v := 186) dX12_route_120 (by decide) ?_
      refine mf_iload_n 1 dX12_route_123 rfl ?_
      refine mf_iadd dX12_route_124 ?_
      refine mf_iald dX12_route_125 (mo_a6 hM) (fun v7 => ?_)
      exact mf_ireturn dX12_route_126 rfl rfl ⟨rfl, rfl⟩
    refine mf_case (v := 6) (tgt := 127) (off := 111) dX12_route_16 (by decide) (by decide) (by decide) (by decide) ?_ (fun t16_6 => ?_)
    · refine mf_aload_n 0 dX12_route_127 rfl ?_
      refine mf_getr 12 6 dX12_route_128 fl_X12_33 (by decide) (by decide) rfl (mo_o hM) (mo_r6 hM) (by decide) ?_
      refine mf_sipush (v := 196) dX12_route_131 (by decide) ?_
      refine mf_iload_n 1 dX12_route_134 rfl ?_
      refine mf_iadd dX12_route_135 ?_
      refine mf_iald dX12_route_136 (mo_a6 hM) (fun v8 => ?_)
      exact mf_ireturn dX12_route_137 rfl rfl ⟨rfl, rfl⟩
    refine mf_case (v := 7) (tgt := 138) (off := 122) dX12_route_16 (by decide) (by decide) (by decide) (by decide) ?_ (fun t16_7 => ?_)
    · refine mf_aload_n 0 dX12_route_138 rfl ?_
      refine mf_getr 12 6 dX12_route_139 fl_X12_33 (by decide) (by decide) rfl (mo_o hM) (mo_r6 hM) (by decide) ?_
      refine mf_sipush (v := 239) dX12_route_142 (by decide) ?_
      refine mf_iload_n 1 dX12_route_145 rfl ?_
      refine mf_iadd dX12_route_146 ?_
      refine mf_iald dX12_route_147 (mo_a6 hM) (fun v9 => ?_)
      exact mf_ireturn dX12_route_148 rfl rfl ⟨rfl, rfl⟩
    refine mf_case (v := 8) (tgt := 149) (off := 133) dX12_route_16 (by decide) (by decide) (by decide) (by decide) ?_ (fun t16_8 => ?_)
    · refine mf_aload_n 0 dX12_route_149 rfl ?_
      refine mf_getr 12 6 dX12_route_150 fl_X12_33 (by decide) (by decide) rfl (mo_o hM) (mo_r6 hM) (by decide) ?_
      refine mf_sipush (v := 249) dX12_route_153 (by decide) ?_
      refine mf_iload_n 1 dX12_route_156 rfl ?_
      refine mf_iadd dX12_route_157 ?_
      refine mf_iald dX12_route_158 (mo_a6 hM) (fun v10 => ?_)
      refine mf_iconst (v := 1) dX12_route_159 rfl ?_
      refine mf_isub dX12_route_160 ?_
      exact mf_ireturn dX12_route_161 rfl rfl ⟨rfl, rfl⟩
    refine mf_dflt (tgt := 162) dX12_route_16 (by have := lv_neT t16_0 (a := 0) (by decide); have := lv_neT t16_1 (a := 1) (by decide); have := lv_neT t16_2 (a := 2) (by decide); have := lv_neT t16_3 (a := 3) (by decide); have := lv_neT t16_4 (a := 4) (by decide); have := lv_neT t16_5 (a := 5) (by decide); have := lv_neT t16_6 (a := 6) (by decide); have := lv_neT t16_7 (a := 7) (by decide); have := lv_neT t16_8 (a := 8) (by decide); omega) (by decide) ?_
    refine mf_iconst (v := -1) dX12_route_162 rfl ?_
    exact mf_ireturn dX12_route_163 rfl rfl ⟨rfl, rfl⟩
  · refine mf_iconst (v := -1) dX12_route_13 rfl ?_
    exact mf_ireturn dX12_route_14 rfl rfl ⟨rfl, rfl⟩
set_option maxRecDepth 100000 in
set_option maxHeartbeats 4000000 in
theorem aX12_over (d : Nat) (q : m_S) (hM : isM q) (a1 : Int32) (a2 : Int32) : AC rI yX12_over cX12_over 3 (some .int) (d + 3) [.ref 218, .int a1, .int a2] q (fX12_over a1 a2) := by
  refine ac_of (by decide +kernel) (Nat.le_of_ble_eq_true rfl) ?_
  unfold fX12_over
  show MF rI (yX12_over.cls, cX12_over, 3, (some .int), yX12_over.name, d + 3, 0, 0) 0 [(0, .ref 218), (1, .int a1), (2, .int a2)] [] q _
  refine mf_aload_n 0 dX12_over_0 rfl ?_
  refine mf_iconst (v := 0) dX12_over_1 rfl ?_
  refine mf_puti 12 0 dX12_over_2 fl_X12_1 (by decide) (by decide) rfl rfl (mo_o hM) ?_
  refine mf_aload_n 0 dX12_over_5 rfl ?_
  refine mf_iload_n 1 dX12_over_6 rfl ?_
  refine mf_cVi (rest := []) [.int a1] (aX12_isRoute (d + 0) q hM a1) mY_X12_isRoute dX12_over_7 ml_X12_329 (mo_o hM) rfl rfl (Nat.le_of_ble_eq_true rfl) rfl (fun v1 => ?_)
  refine mf_if_eq (tgt := 49) dX12_over_10 (by decide) ?_ ?_
  · refine mf_iconst (v := -1) dX12_over_49 rfl ?_
    exact mf_ireturn dX12_over_50 rfl rfl ⟨rfl, rfl⟩
  · refine mf_iload_n 2 dX12_over_13 rfl ?_
    refine mf_iconst (v := 0) dX12_over_14 rfl ?_
    refine mf_aload_n 0 dX12_over_15 rfl ?_
    refine mf_getr 12 6 dX12_over_16 fl_X12_33 (by decide) (by decide) rfl (mo_o hM) (mo_r6 hM) (by decide) ?_
    refine mf_bipush (v := 116) dX12_over_19 (by decide) ?_
    refine mf_iload_n 1 dX12_over_21 rfl ?_
    refine mf_iadd dX12_over_22 ?_
    refine mf_iald dX12_over_23 (mo_a6 hM) (fun v2 => ?_)
    refine mf_iconst (v := 1) dX12_over_24 rfl ?_
    refine mf_isub dX12_over_25 ?_
    refine mf_cSi (rest := []) [.int a2, .int 0, .int (v2 - 1)] (aX12_isIn (d + 1) q a2 0 (v2 - 1)) mY_X12_isIn dX12_over_26 ml_X12_211 rfl rfl (Nat.le_of_ble_eq_true rfl) rfl (fun v3 => ?_)
    refine mf_if_eq (tgt := 49) dX12_over_29 (by decide) ?_ ?_
    · refine mf_iconst (v := -1) dX12_over_49 rfl ?_
      exact mf_ireturn dX12_over_50 rfl rfl ⟨rfl, rfl⟩
    · refine mf_aload_n 0 dX12_over_32 rfl ?_
      refine mf_getr 12 6 dX12_over_33 fl_X12_33 (by decide) (by decide) rfl (mo_o hM) (mo_r6 hM) (by decide) ?_
      refine mf_bipush (v := 126) dX12_over_36 (by decide) ?_
      refine mf_bipush (v := 6) dX12_over_38 (by decide) ?_
      refine mf_iload_n 1 dX12_over_40 rfl ?_
      refine mf_imul dX12_over_41 ?_
      refine mf_iadd dX12_over_42 ?_
      refine mf_iload_n 2 dX12_over_43 rfl ?_
      refine mf_iadd dX12_over_44 ?_
      refine mf_iald dX12_over_45 (mo_a6 hM) (fun v4 => ?_)
      refine mf_goto (tgt := 50) dX12_over_46 (by decide) ?_
      exact mf_ireturn dX12_over_50 rfl rfl ⟨rfl, rfl⟩
set_option maxRecDepth 100000 in
set_option maxHeartbeats 4000000 in
theorem aX12_usedBy (d : Nat) (q : m_S) (hM : isM q) (a1 : Int32) : AC rI yX12_usedBy cX12_usedBy 4 (some .int) (d + 1) [.ref 218, .int a1] q (fX12_usedBy a1) := by
  refine ac_of (by decide +kernel) (Nat.le_of_ble_eq_true rfl) ?_
  unfold fX12_usedBy
  show MF rI (yX12_usedBy.cls, cX12_usedBy, 4, (some .int), yX12_usedBy.name, d + 1, 0, 0) 0 [(0, .ref 218), (1, .int a1)] [] q _
  refine mf_iconst (v := 0) dX12_usedBy_0 rfl ?_
  refine mf_istore_n [(2, .int 0), (0, .ref 218), (1, .int a1)] dX12_usedBy_1 (Nat.le_of_ble_eq_true rfl) rfl ?_
  refine mf_iconst (v := 0) dX12_usedBy_2 rfl ?_
  refine mf_istore_n [(3, .int 0), (2, .int 0), (0, .ref 218), (1, .int a1)] dX12_usedBy_3 (Nat.le_of_ble_eq_true rfl) rfl ?_
  refine mf_sub [2, 3, 1, 0] rfl ?_
  refine mf_lz2 (lv := fun x1 x2 => [(0, .ref 218), (1, .int a1), (2, .int x1), (3, .int x2)]) (fun L4 h4 x1 x2 => ?_) _ _ _
  show MF rI (yX12_usedBy.cls, cX12_usedBy, 4, (some .int), yX12_usedBy.name, d + 1, 0, 0) 4 [(0, .ref 218), (1, .int a1), (2, .int x1), (3, .int x2)] [] q _
  refine mf_iload_n 3 dX12_usedBy_4 rfl ?_
  refine mf_aload_n 0 dX12_usedBy_5 rfl ?_
  refine mf_getr 12 6 dX12_usedBy_6 fl_X12_33 (by decide) (by decide) rfl (mo_o hM) (mo_r6 hM) (by decide) ?_
  refine mf_iconst (v := 4) dX12_usedBy_9 rfl ?_
  refine mf_iald dX12_usedBy_10 (mo_a6 hM) (fun v3 => ?_)
  refine mf_icmp_ge (tgt := 46) dX12_usedBy_11 (by decide) ?_ ?_
  · refine mf_iload_n 2 dX12_usedBy_46 rfl ?_
    exact mf_ireturn dX12_usedBy_47 rfl rfl ⟨rfl, rfl⟩
  · refine mf_iload_n 2 dX12_usedBy_14 rfl ?_
    refine mf_aload_n 0 dX12_usedBy_15 rfl ?_
    refine mf_getr 12 6 dX12_usedBy_16 fl_X12_33 (by decide) (by decide) rfl (mo_o hM) (mo_r6 hM) (by decide) ?_
    refine mf_sipush (v := 249) dX12_usedBy_19 (by decide) ?_
    refine mf_iload_n 3 dX12_usedBy_22 rfl ?_
    refine mf_iadd dX12_usedBy_23 ?_
    refine mf_iald dX12_usedBy_24 (mo_a6 hM) (fun v4 => ?_)
    refine mf_iload_n 1 dX12_usedBy_25 rfl ?_
    refine mf_iconst (v := 1) dX12_usedBy_26 rfl ?_
    refine mf_iadd dX12_usedBy_27 ?_
    refine mf_icmp_ne (tgt := 37) dX12_usedBy_28 (by decide) ?_ ?_
    · refine mf_iconst (v := 0) dX12_usedBy_37 rfl ?_
      refine mf_ior dX12_usedBy_38 ?_
      refine mf_istore_n [(2, .int (x1 ||| 0)), (0, .ref 218), (1, .int a1), (3, .int x2)] dX12_usedBy_39 (Nat.le_of_ble_eq_true rfl) rfl ?_
      refine mf_iinc 3 (x2 + 1) [(3, .int (x2 + 1)), (2, .int (x1 ||| 0)), (0, .ref 218), (1, .int a1)] dX12_usedBy_40 rfl rfl (Nat.le_of_ble_eq_true rfl) rfl ?_
      refine mf_goto (tgt := 4) dX12_usedBy_43 (by decide) ?_
      refine mf_sub [2, 3, 1, 0] rfl ?_
      exact h4 _ _
    · refine mf_iconst (v := 1) dX12_usedBy_31 rfl ?_
      refine mf_iload_n 3 dX12_usedBy_32 rfl ?_
      refine mf_ishl dX12_usedBy_33 ?_
      refine mf_goto (tgt := 38) dX12_usedBy_34 (by decide) ?_
      refine mf_ior dX12_usedBy_38 ?_
      refine mf_istore_n [(2, .int (x1 ||| (1 <<< (x2 &&& 31)))), (0, .ref 218), (1, .int a1), (3, .int x2)] dX12_usedBy_39 (Nat.le_of_ble_eq_true rfl) rfl ?_
      refine mf_iinc 3 (x2 + 1) [(3, .int (x2 + 1)), (2, .int (x1 ||| (1 <<< (x2 &&& 31)))), (0, .ref 218), (1, .int a1)] dX12_usedBy_40 rfl rfl (Nat.le_of_ble_eq_true rfl) rfl ?_
      refine mf_goto (tgt := 4) dX12_usedBy_43 (by decide) ?_
      refine mf_sub [2, 3, 1, 0] rfl ?_
      exact h4 _ _
set_option maxRecDepth 100000 in
set_option maxHeartbeats 4000000 in
theorem aX12_train (d : Nat) (q : m_S) (hM : isM q) (a1 : Int32) (a2 : Int32) : AC rI yX12_train cX12_train 3 (some .int) (d + 3) [.ref 218, .int a1, .int a2] q (fX12_train a1 a2) := by
  refine ac_of (by decide +kernel) (Nat.le_of_ble_eq_true rfl) ?_
  unfold fX12_train
  show MF rI (yX12_train.cls, cX12_train, 3, (some .int), yX12_train.name, d + 3, 0, 0) 0 [(0, .ref 218), (1, .int a1), (2, .int a2)] [] q _
  refine mf_aload_n 0 dX12_train_0 rfl ?_
  refine mf_aload_n 0 dX12_train_1 rfl ?_
  refine mf_iload_n 1 dX12_train_2 rfl ?_
  refine mf_cVi (rest := [.ref 218]) [.int a1] (aX12_isTrain (d + 0) q hM a1) mY_X12_isTrain dX12_train_3 ml_X12_335 (mo_o hM) rfl rfl (Nat.le_of_ble_eq_true rfl) rfl (fun v1 => ?_)
  refine mf_jo1 (pj := 24) (lvj := fun w2 => [(0, .ref 218), (1, .int a1), (2, .int a2)]) (stj := fun w2 => [.int w2, .ref 218]) (fun w2 => ?_) (fun J24 hJ24 => ?_)
  · show MF rI (yX12_train.cls, cX12_train, 3, (some .int), yX12_train.name, d + 3, 0, 0) 24 [(0, .ref 218), (1, .int a1), (2, .int a2)] [.int w2, .ref 218] q _
    refine mf_cVi (rest := []) [.int w2] (aX12_throwsIf (d + 1) q hM w2) mY_X12_throwsIf dX12_train_24 ml_X12_338 (mo_o hM) rfl rfl (Nat.le_of_ble_eq_true rfl) rfl (fun v3 => ?_)
    refine mf_if_eq (tgt := 32) dX12_train_27 (by decide) ?_ ?_
    · refine mf_iload_n 2 dX12_train_32 rfl ?_
      refine mf_case (v := 0) (tgt := 72) (off := 39) dX12_train_33 (by decide) (by decide) (by decide) (by decide) ?_ (fun t33_0 => ?_)
      · refine mf_aload_n 0 dX12_train_72 rfl ?_
        refine mf_getr 12 6 dX12_train_73 fl_X12_33 (by decide) (by decide) rfl (mo_o hM) (mo_r6 hM) (by decide) ?_
        refine mf_sipush (v := 271) dX12_train_76 (by decide) ?_
        refine mf_iload_n 1 dX12_train_79 rfl ?_
        refine mf_iadd dX12_train_80 ?_
        refine mf_iald dX12_train_81 (mo_a6 hM) (fun v4 => ?_)
        refine mf_iconst (v := 1) dX12_train_82 rfl ?_
        refine mf_isub dX12_train_83 ?_
        exact mf_ireturn dX12_train_84 rfl rfl ⟨rfl, rfl⟩
      refine mf_case (v := 1) (tgt := 85) (off := 52) dX12_train_33 (by decide) (by decide) (by decide) (by decide) ?_ (fun t33_1 => ?_)
      · refine mf_aload_n 0 dX12_train_85 rfl ?_
        refine mf_getr 12 6 dX12_train_86 fl_X12_33 (by decide) (by decide) rfl (mo_o hM) (mo_r6 hM) (by decide) ?_
        refine mf_sipush (v := 221) dX12_train_89 (by decide) ?_
        refine mf_iload_n 1 dX12_train_92 rfl ?_
        refine mf_iadd dX12_train_93 ?_
        refine mf_iald dX12_train_94 (mo_a6 hM) (fun v5 => ?_)
        exact mf_ireturn dX12_train_95 rfl rfl ⟨rfl, rfl⟩
      refine mf_case (v := 2) (tgt := 96) (off := 63) dX12_train_33 (by decide) (by decide) (by decide) (by decide) ?_ (fun t33_2 => ?_)
      · refine mf_aload_n 0 dX12_train_96 rfl ?_
        refine mf_getr 12 6 dX12_train_97 fl_X12_33 (by decide) (by decide) rfl (mo_o hM) (mo_r6 hM) (by decide) ?_
        refine mf_sipush (v := 276) dX12_train_100 (by decide) ?_
        refine mf_iload_n 1 dX12_train_103 rfl ?_
        refine mf_iadd dX12_train_104 ?_
        refine mf_iald dX12_train_105 (mo_a6 hM) (fun v6 => ?_)
        exact mf_ireturn dX12_train_106 rfl rfl ⟨rfl, rfl⟩
      refine mf_case (v := 3) (tgt := 107) (off := 74) dX12_train_33 (by decide) (by decide) (by decide) (by decide) ?_ (fun t33_3 => ?_)
      · refine mf_aload_n 0 dX12_train_107 rfl ?_
        refine mf_getr 12 6 dX12_train_108 fl_X12_33 (by decide) (by decide) rfl (mo_o hM) (mo_r6 hM) (by decide) ?_
        refine mf_sipush (v := 281) dX12_train_111 (by decide) ?_
        refine mf_iald dX12_train_114 (mo_a6 hM) (fun v7 => ?_)
        refine mf_iload_n 1 dX12_train_115 rfl ?_
        refine mf_ishr dX12_train_116 ?_
        refine mf_iconst (v := 1) dX12_train_117 rfl ?_
        refine mf_iand dX12_train_118 ?_
        exact mf_ireturn dX12_train_119 rfl rfl ⟨rfl, rfl⟩
      refine mf_case (v := 4) (tgt := 120) (off := 87) dX12_train_33 (by decide) (by decide) (by decide) (by decide) ?_ (fun t33_4 => ?_)
      · refine mf_aload_n 0 dX12_train_120 rfl ?_
        refine mf_getr 12 6 dX12_train_121 fl_X12_33 (by decide) (by decide) rfl (mo_o hM) (mo_r6 hM) (by decide) ?_
        refine mf_sipush (v := 282) dX12_train_124 (by decide) ?_
        refine mf_iald dX12_train_127 (mo_a6 hM) (fun v8 => ?_)
        refine mf_iload_n 1 dX12_train_128 rfl ?_
        refine mf_ishr dX12_train_129 ?_
        refine mf_iconst (v := 1) dX12_train_130 rfl ?_
        refine mf_iand dX12_train_131 ?_
        exact mf_ireturn dX12_train_132 rfl rfl ⟨rfl, rfl⟩
      refine mf_case (v := 5) (tgt := 133) (off := 100) dX12_train_33 (by decide) (by decide) (by decide) (by decide) ?_ (fun t33_5 => ?_)
      · refine mf_aload_n 0 dX12_train_133 rfl ?_
        refine mf_getr 12 6 dX12_train_134 fl_X12_33 (by decide) (by decide) rfl (mo_o hM) (mo_r6 hM) (by decide) ?_
        refine mf_sipush (v := 283) dX12_train_137 (by decide) ?_
        refine mf_iload_n 1 dX12_train_140 rfl ?_
        refine mf_iadd dX12_train_141 ?_
        refine mf_iald dX12_train_142 (mo_a6 hM) (fun v9 => ?_)
        exact mf_ireturn dX12_train_143 rfl rfl ⟨rfl, rfl⟩
      refine mf_dflt (tgt := 144) dX12_train_33 (by have := lv_neT t33_0 (a := 0) (by decide); have := lv_neT t33_1 (a := 1) (by decide); have := lv_neT t33_2 (a := 2) (by decide); have := lv_neT t33_3 (a := 3) (by decide); have := lv_neT t33_4 (a := 4) (by decide); have := lv_neT t33_5 (a := 5) (by decide); omega) (by decide) ?_
      refine mf_aload_n 0 dX12_train_144 rfl ?_
      refine mf_iload_n 1 dX12_train_145 rfl ?_
      refine mf_cVi (rest := []) [.int a1] (aX12_usedBy (d + 1) q hM a1) mY_X12_usedBy dX12_train_146 ml_X12_342 (mo_o hM) rfl rfl (Nat.le_of_ble_eq_true rfl) rfl (fun v10 => ?_)
      exact mf_ireturn dX12_train_149 rfl rfl ⟨rfl, rfl⟩
    · refine mf_iconst (v := 0) dX12_train_30 rfl ?_
      exact mf_ireturn dX12_train_31 rfl rfl ⟨rfl, rfl⟩
  refine mf_if_eq (tgt := 19) dX12_train_6 (by decide) ?_ ?_
  · refine mf_iconst (v := 1) dX12_train_19 rfl ?_
    refine mf_goto (tgt := 24) dX12_train_20 (by decide) ?_
    exact hJ24 _
  · refine mf_iload_n 2 dX12_train_9 rfl ?_
    refine mf_iconst (v := 0) dX12_train_10 rfl ?_
    refine mf_bipush (v := 6) dX12_train_11 (by decide) ?_
    refine mf_cSi (rest := [.ref 218]) [.int a2, .int 0, .int 6] (aX12_isIn (d + 1) q a2 0 6) mY_X12_isIn dX12_train_13 ml_X12_211 rfl rfl (Nat.le_of_ble_eq_true rfl) rfl (fun v11 => ?_)
    refine mf_if_ne (tgt := 23) dX12_train_16 (by decide) ?_ ?_
    · refine mf_iconst (v := 0) dX12_train_23 rfl ?_
      exact hJ24 _
    · refine mf_iconst (v := 1) dX12_train_19 rfl ?_
      refine mf_goto (tgt := 24) dX12_train_20 (by decide) ?_
      exact hJ24 _
set_option maxRecDepth 100000 in
set_option maxHeartbeats 4000000 in
theorem aX12_now (d : Nat) (q : m_S) (hM : isM q) (a1 : Int32) : AC rI yX12_now cX12_now 5 (some .int) (d + 4) [.ref 218, .int a1] q (fX12_now a1) := by
  refine ac_of (by decide +kernel) (Nat.le_of_ble_eq_true rfl) ?_
  unfold fX12_now
  show MF rI (yX12_now.cls, cX12_now, 5, (some .int), yX12_now.name, d + 4, 0, 0) 0 [(0, .ref 218), (1, .int a1)] [] q _
  refine mf_aload_n 0 dX12_now_0 rfl ?_
  refine mf_iconst (v := 0) dX12_now_1 rfl ?_
  refine mf_puti 12 0 dX12_now_2 fl_X12_1 (by decide) (by decide) rfl rfl (mo_o hM) ?_
  refine mf_iconst (v := 0) dX12_now_5 rfl ?_
  refine mf_istore_n [(2, .int 0), (0, .ref 218), (1, .int a1)] dX12_now_6 (Nat.le_of_ble_eq_true rfl) rfl ?_
  refine mf_iconst (v := 0) dX12_now_7 rfl ?_
  refine mf_istore_n [(3, .int 0), (2, .int 0), (0, .ref 218), (1, .int a1)] dX12_now_8 (Nat.le_of_ble_eq_true rfl) rfl ?_
  refine mf_iconst (v := 0) dX12_now_9 rfl ?_
  refine mf_istore [(4, .int 0), (3, .int 0), (2, .int 0), (0, .ref 218), (1, .int a1)] dX12_now_10 (Nat.le_of_ble_eq_true rfl) rfl ?_
  refine mf_sub [3, 4, 2, 1, 0] rfl ?_
  refine mf_lz2 (lv := fun x1 x2 => [(0, .ref 218), (1, .int a1), (2, .int x1), (3, .int 0), (4, .int x2)]) (fun L12 h12 x1 x2 => ?_) _ _ _
  show MF rI (yX12_now.cls, cX12_now, 5, (some .int), yX12_now.name, d + 4, 0, 0) 12 [(0, .ref 218), (1, .int a1), (2, .int x1), (3, .int 0), (4, .int x2)] [] q _
  refine mf_iload 4 dX12_now_12 rfl ?_
  refine mf_aload_n 0 dX12_now_14 rfl ?_
  refine mf_getr 12 6 dX12_now_15 fl_X12_33 (by decide) (by decide) rfl (mo_o hM) (mo_r6 hM) (by decide) ?_
  refine mf_iconst (v := 0) dX12_now_18 rfl ?_
  refine mf_iald dX12_now_19 (mo_a6 hM) (fun v3 => ?_)
  refine mf_icmp_ge (tgt := 49) dX12_now_20 (by decide) ?_ ?_
  · refine mf_iconst (v := 0) dX12_now_49 rfl ?_
    refine mf_istore [(4, .int 0), (0, .ref 218), (1, .int a1), (2, .int x1), (3, .int 0)] dX12_now_50 (Nat.le_of_ble_eq_true rfl) rfl ?_
    refine mf_sub [1, 2, 3, 4, 0] rfl ?_
    refine mf_lz2 (lv := fun x4 x5 => [(0, .ref 218), (1, .int a1), (2, .int x1), (3, .int x4), (4, .int x5)]) (fun L52 h52 x4 x5 => ?_) _ _ _
    show MF rI (yX12_now.cls, cX12_now, 5, (some .int), yX12_now.name, d + 4, 0, 0) 52 [(0, .ref 218), (1, .int a1), (2, .int x1), (3, .int x4), (4, .int x5)] [] q _
    refine mf_iload 4 dX12_now_52 rfl ?_
    refine mf_aload_n 0 dX12_now_54 rfl ?_
    refine mf_getr 12 6 dX12_now_55 fl_X12_33 (by decide) (by decide) rfl (mo_o hM) (mo_r6 hM) (by decide) ?_
    refine mf_bipush (v := 6) dX12_now_58 (by decide) ?_
    refine mf_iald dX12_now_60 (mo_a6 hM) (fun v6 => ?_)
    refine mf_icmp_ge (tgt := 95) dX12_now_61 (by decide) ?_ ?_
    · refine mf_iload_n 1 dX12_now_95 rfl ?_
      refine mf_case (v := 0) (tgt := 140) (off := 44) dX12_now_96 (by decide) (by decide) (by decide) (by decide) ?_ (fun t96_0 => ?_)
      · refine mf_aload_n 0 dX12_now_140 rfl ?_
        refine mf_getr 12 6 dX12_now_141 fl_X12_33 (by decide) (by decide) rfl (mo_o hM) (mo_r6 hM) (by decide) ?_
        refine mf_sipush (v := 226) dX12_now_144 (by decide) ?_
        refine mf_iald dX12_now_147 (mo_a6 hM) (fun v7 => ?_)
        exact mf_ireturn dX12_now_148 rfl rfl ⟨rfl, rfl⟩
      refine mf_case (v := 1) (tgt := 149) (off := 53) dX12_now_96 (by decide) (by decide) (by decide) (by decide) ?_ (fun t96_1 => ?_)
      · refine mf_iload_n 2 dX12_now_149 rfl ?_
        exact mf_ireturn dX12_now_150 rfl rfl ⟨rfl, rfl⟩
      refine mf_case (v := 2) (tgt := 151) (off := 55) dX12_now_96 (by decide) (by decide) (by decide) (by decide) ?_ (fun t96_2 => ?_)
      · refine mf_aload_n 0 dX12_now_151 rfl ?_
        refine mf_cVi (rest := []) [] (aX12_busy (d + 2) q hM) mY_X12_busy dX12_now_152 ml_X12_345 (mo_o hM) rfl rfl (Nat.le_of_ble_eq_true rfl) rfl (fun v8 => ?_)
        exact mf_ireturn dX12_now_155 rfl rfl ⟨rfl, rfl⟩
      refine mf_case (v := 3) (tgt := 156) (off := 60) dX12_now_96 (by decide) (by decide) (by decide) (by decide) ?_ (fun t96_3 => ?_)
      · refine mf_aload_n 0 dX12_now_156 rfl ?_
        refine mf_getr 12 6 dX12_now_157 fl_X12_33 (by decide) (by decide) rfl (mo_o hM) (mo_r6 hM) (by decide) ?_
        refine mf_sipush (v := 228) dX12_now_160 (by decide) ?_
        refine mf_iald dX12_now_163 (mo_a6 hM) (fun v9 => ?_)
        exact mf_ireturn dX12_now_164 rfl rfl ⟨rfl, rfl⟩
      refine mf_case (v := 4) (tgt := 165) (off := 69) dX12_now_96 (by decide) (by decide) (by decide) (by decide) ?_ (fun t96_4 => ?_)
      · refine mf_iload_n 3 dX12_now_165 rfl ?_
        exact mf_ireturn dX12_now_166 rfl rfl ⟨rfl, rfl⟩
      refine mf_case (v := 5) (tgt := 167) (off := 71) dX12_now_96 (by decide) (by decide) (by decide) (by decide) ?_ (fun t96_5 => ?_)
      · refine mf_aload_n 0 dX12_now_167 rfl ?_
        refine mf_getr 12 6 dX12_now_168 fl_X12_33 (by decide) (by decide) rfl (mo_o hM) (mo_r6 hM) (by decide) ?_
        refine mf_sipush (v := 281) dX12_now_171 (by decide) ?_
        refine mf_iald dX12_now_174 (mo_a6 hM) (fun v10 => ?_)
        exact mf_ireturn dX12_now_175 rfl rfl ⟨rfl, rfl⟩
      refine mf_case (v := 6) (tgt := 176) (off := 80) dX12_now_96 (by decide) (by decide) (by decide) (by decide) ?_ (fun t96_6 => ?_)
      · refine mf_aload_n 0 dX12_now_176 rfl ?_
        refine mf_getr 12 6 dX12_now_177 fl_X12_33 (by decide) (by decide) rfl (mo_o hM) (mo_r6 hM) (by decide) ?_
        refine mf_sipush (v := 227) dX12_now_180 (by decide) ?_
        refine mf_iald dX12_now_183 (mo_a6 hM) (fun v11 => ?_)
        exact mf_ireturn dX12_now_184 rfl rfl ⟨rfl, rfl⟩
      refine mf_dflt (tgt := 185) dX12_now_96 (by have := lv_neT t96_0 (a := 0) (by decide); have := lv_neT t96_1 (a := 1) (by decide); have := lv_neT t96_2 (a := 2) (by decide); have := lv_neT t96_3 (a := 3) (by decide); have := lv_neT t96_4 (a := 4) (by decide); have := lv_neT t96_5 (a := 5) (by decide); have := lv_neT t96_6 (a := 6) (by decide); omega) (by decide) ?_
      refine mf_iconst (v := -1) dX12_now_185 rfl ?_
      exact mf_ireturn dX12_now_186 rfl rfl ⟨rfl, rfl⟩
    · refine mf_iload_n 3 dX12_now_64 rfl ?_
      refine mf_aload_n 0 dX12_now_65 rfl ?_
      refine mf_getr 12 6 dX12_now_66 fl_X12_33 (by decide) (by decide) rfl (mo_o hM) (mo_r6 hM) (by decide) ?_
      refine mf_sipush (v := 271) dX12_now_69 (by decide) ?_
      refine mf_iload 4 dX12_now_72 rfl ?_
      refine mf_iadd dX12_now_74 ?_
      refine mf_iald dX12_now_75 (mo_a6 hM) (fun v12 => ?_)
      refine mf_if_ne (tgt := 86) dX12_now_76 (by decide) ?_ ?_
      · refine mf_iconst (v := 0) dX12_now_86 rfl ?_
        refine mf_ior dX12_now_87 ?_
        refine mf_istore_n [(3, .int (x4 ||| 0)), (0, .ref 218), (1, .int a1), (2, .int x1), (4, .int x5)] dX12_now_88 (Nat.le_of_ble_eq_true rfl) rfl ?_
        refine mf_iinc 4 (x5 + 1) [(4, .int (x5 + 1)), (3, .int (x4 ||| 0)), (0, .ref 218), (1, .int a1), (2, .int x1)] dX12_now_89 rfl rfl (Nat.le_of_ble_eq_true rfl) rfl ?_
        refine mf_goto (tgt := 52) dX12_now_92 (by decide) ?_
        refine mf_sub [2, 3, 4, 1, 0] rfl ?_
        exact h52 _ _
      · refine mf_iconst (v := 1) dX12_now_79 rfl ?_
        refine mf_iload 4 dX12_now_80 rfl ?_
        refine mf_ishl dX12_now_82 ?_
        refine mf_goto (tgt := 87) dX12_now_83 (by decide) ?_
        refine mf_ior dX12_now_87 ?_
        refine mf_istore_n [(3, .int (x4 ||| (1 <<< (x5 &&& 31)))), (0, .ref 218), (1, .int a1), (2, .int x1), (4, .int x5)] dX12_now_88 (Nat.le_of_ble_eq_true rfl) rfl ?_
        refine mf_iinc 4 (x5 + 1) [(4, .int (x5 + 1)), (3, .int (x4 ||| (1 <<< (x5 &&& 31)))), (0, .ref 218), (1, .int a1), (2, .int x1)] dX12_now_89 rfl rfl (Nat.le_of_ble_eq_true rfl) rfl ?_
        refine mf_goto (tgt := 52) dX12_now_92 (by decide) ?_
        refine mf_sub [2, 3, 4, 1, 0] rfl ?_
        exact h52 _ _
  · refine mf_iload_n 2 dX12_now_23 rfl ?_
    refine mf_aload_n 0 dX12_now_24 rfl ?_
    refine mf_iload 4 dX12_now_25 rfl ?_
    refine mf_cVi (rest := [.int x1]) [.int x2] (aX12_showsFull (d + 0) q hM x2) mY_X12_showsFull dX12_now_27 ml_X12_314 (mo_o hM) rfl rfl (Nat.le_of_ble_eq_true rfl) rfl (fun v13 => ?_)
    refine mf_if_eq (tgt := 40) dX12_now_30 (by decide) ?_ ?_
    · refine mf_iconst (v := 0) dX12_now_40 rfl ?_
      refine mf_ior dX12_now_41 ?_
      refine mf_istore_n [(2, .int (x1 ||| 0)), (0, .ref 218), (1, .int a1), (3, .int 0), (4, .int x2)] dX12_now_42 (Nat.le_of_ble_eq_true rfl) rfl ?_
      refine mf_iinc 4 (x2 + 1) [(4, .int (x2 + 1)), (2, .int (x1 ||| 0)), (0, .ref 218), (1, .int a1), (3, .int 0)] dX12_now_43 rfl rfl (Nat.le_of_ble_eq_true rfl) rfl ?_
      refine mf_goto (tgt := 12) dX12_now_46 (by decide) ?_
      refine mf_sub [2, 3, 1, 4, 0] rfl ?_
      exact h12 _ _
    · refine mf_iconst (v := 1) dX12_now_33 rfl ?_
      refine mf_iload 4 dX12_now_34 rfl ?_
      refine mf_ishl dX12_now_36 ?_
      refine mf_goto (tgt := 41) dX12_now_37 (by decide) ?_
      refine mf_ior dX12_now_41 ?_
      refine mf_istore_n [(2, .int (x1 ||| (1 <<< (x2 &&& 31)))), (0, .ref 218), (1, .int a1), (3, .int 0), (4, .int x2)] dX12_now_42 (Nat.le_of_ble_eq_true rfl) rfl ?_
      refine mf_iinc 4 (x2 + 1) [(4, .int (x2 + 1)), (2, .int (x1 ||| (1 <<< (x2 &&& 31)))), (0, .ref 218), (1, .int a1), (3, .int 0)] dX12_now_43 rfl rfl (Nat.le_of_ble_eq_true rfl) rfl ?_
      refine mf_goto (tgt := 12) dX12_now_46 (by decide) ?_
      refine mf_sub [2, 3, 1, 4, 0] rfl ?_
      exact h12 _ _
set_option maxRecDepth 100000 in
set_option maxHeartbeats 4000000 in
theorem aX12_wrongPoints (d : Nat) (q : m_S) (hM : isM q) (a1 : Int32) : AC rI yX12_wrongPoints cX12_wrongPoints 2 (some .int) (d + 1) [.ref 218, .int a1] q (fX12_wrongPoints a1) := by
  refine ac_of (by decide +kernel) (Nat.le_of_ble_eq_true rfl) ?_
  unfold fX12_wrongPoints
  show MF rI (yX12_wrongPoints.cls, cX12_wrongPoints, 2, (some .int), yX12_wrongPoints.name, d + 1, 0, 0) 0 [(0, .ref 218), (1, .int a1)] [] q _
  refine mf_aload_n 0 dX12_wrongPoints_0 rfl ?_
  refine mf_getr 12 6 dX12_wrongPoints_1 fl_X12_33 (by decide) (by decide) rfl (mo_o hM) (mo_r6 hM) (by decide) ?_
  refine mf_sipush (v := 186) dX12_wrongPoints_4 (by decide) ?_
  refine mf_iload_n 1 dX12_wrongPoints_7 rfl ?_
  refine mf_iadd dX12_wrongPoints_8 ?_
  refine mf_iald dX12_wrongPoints_9 (mo_a6 hM) (fun v1 => ?_)
  refine mf_aload_n 0 dX12_wrongPoints_10 rfl ?_
  refine mf_getr 12 6 dX12_wrongPoints_11 fl_X12_33 (by decide) (by decide) rfl (mo_o hM) (mo_r6 hM) (by decide) ?_
  refine mf_sipush (v := 228) dX12_wrongPoints_14 (by decide) ?_
  refine mf_iald dX12_wrongPoints_17 (mo_a6 hM) (fun v2 => ?_)
  refine mf_iand dX12_wrongPoints_18 ?_
  refine mf_aload_n 0 dX12_wrongPoints_19 rfl ?_
  refine mf_getr 12 6 dX12_wrongPoints_20 fl_X12_33 (by decide) (by decide) rfl (mo_o hM) (mo_r6 hM) (by decide) ?_
  refine mf_sipush (v := 196) dX12_wrongPoints_23 (by decide) ?_
  refine mf_iload_n 1 dX12_wrongPoints_26 rfl ?_
  refine mf_iadd dX12_wrongPoints_27 ?_
  refine mf_iald dX12_wrongPoints_28 (mo_a6 hM) (fun v3 => ?_)
  refine mf_aload_n 0 dX12_wrongPoints_29 rfl ?_
  refine mf_getr 12 6 dX12_wrongPoints_30 fl_X12_33 (by decide) (by decide) rfl (mo_o hM) (mo_r6 hM) (by decide) ?_
  refine mf_sipush (v := 228) dX12_wrongPoints_33 (by decide) ?_
  refine mf_iald dX12_wrongPoints_36 (mo_a6 hM) (fun v4 => ?_)
  refine mf_iconst (v := -1) dX12_wrongPoints_37 rfl ?_
  refine mf_ixor dX12_wrongPoints_38 ?_
  refine mf_iand dX12_wrongPoints_39 ?_
  refine mf_ior dX12_wrongPoints_40 ?_
  exact mf_ireturn dX12_wrongPoints_41 rfl rfl ⟨rfl, rfl⟩
set_option maxRecDepth 100000 in
set_option maxHeartbeats 4000000 in
theorem aX12_hasFull (d : Nat) (q : m_S) (hM : isM q) (a1 : Int32) : AC rI yX12_hasFull cX12_hasFull 4 (some .boolean) (d + 4) [.ref 218, .int a1] q (fX12_hasFull a1) := by
  refine ac_of (by decide +kernel) (Nat.le_of_ble_eq_true rfl) ?_
  unfold fX12_hasFull
  show MF rI (yX12_hasFull.cls, cX12_hasFull, 4, (some .boolean), yX12_hasFull.name, d + 4, 0, 0) 0 [(0, .ref 218), (1, .int a1)] [] q _
  refine mf_iconst (v := 0) dX12_hasFull_0 rfl ?_
  refine mf_istore_n [(2, .int 0), (0, .ref 218), (1, .int a1)] dX12_hasFull_1 (Nat.le_of_ble_eq_true rfl) rfl ?_
  refine mf_iconst (v := 0) dX12_hasFull_2 rfl ?_
  refine mf_istore_n [(3, .int 0), (2, .int 0), (0, .ref 218), (1, .int a1)] dX12_hasFull_3 (Nat.le_of_ble_eq_true rfl) rfl ?_
  refine mf_sub [2, 3, 1, 0] rfl ?_
  refine mf_lz2 (lv := fun x1 x2 => [(0, .ref 218), (1, .int a1), (2, .int x1), (3, .int x2)]) (fun L4 h4 x1 x2 => ?_) _ _ _
  show MF rI (yX12_hasFull.cls, cX12_hasFull, 4, (some .boolean), yX12_hasFull.name, d + 4, 0, 0) 4 [(0, .ref 218), (1, .int a1), (2, .int x1), (3, .int x2)] [] q _
  refine mf_iload_n 3 dX12_hasFull_4 rfl ?_
  refine mf_aload_n 0 dX12_hasFull_5 rfl ?_
  refine mf_getr 12 6 dX12_hasFull_6 fl_X12_33 (by decide) (by decide) rfl (mo_o hM) (mo_r6 hM) (by decide) ?_
  refine mf_bipush (v := 116) dX12_hasFull_9 (by decide) ?_
  refine mf_iload_n 1 dX12_hasFull_11 rfl ?_
  refine mf_iadd dX12_hasFull_12 ?_
  refine mf_iald dX12_hasFull_13 (mo_a6 hM) (fun v3 => ?_)
  refine mf_icmp_ge (tgt := 54) dX12_hasFull_14 (by decide) ?_ ?_
  · refine mf_iload_n 2 dX12_hasFull_54 rfl ?_
    exact mf_zreturn dX12_hasFull_55 rfl ⟨rfl, rfl⟩
  · refine mf_iload_n 2 dX12_hasFull_17 rfl ?_
    refine mf_if_ne (tgt := 42) dX12_hasFull_18 (by decide) ?_ ?_
    · refine mf_iconst (v := 1) dX12_hasFull_42 rfl ?_
      refine mf_goto (tgt := 47) dX12_hasFull_43 (by decide) ?_
      refine mf_istore_n [(2, .int 1), (0, .ref 218), (1, .int a1), (3, .int x2)] dX12_hasFull_47 (Nat.le_of_ble_eq_true rfl) rfl ?_
      refine mf_iinc 3 (x2 + 1) [(3, .int (x2 + 1)), (2, .int 1), (0, .ref 218), (1, .int a1)] dX12_hasFull_48 rfl rfl (Nat.le_of_ble_eq_true rfl) rfl ?_
      refine mf_goto (tgt := 4) dX12_hasFull_51 (by decide) ?_
      refine mf_sub [2, 3, 1, 0] rfl ?_
      exact h4 _ _
    · refine mf_aload_n 0 dX12_hasFull_21 rfl ?_
      refine mf_aload_n 0 dX12_hasFull_22 rfl ?_
      refine mf_getr 12 6 dX12_hasFull_23 fl_X12_33 (by decide) (by decide) rfl (mo_o hM) (mo_r6 hM) (by decide) ?_
      refine mf_bipush (v := 126) dX12_hasFull_26 (by decide) ?_
      refine mf_bipush (v := 6) dX12_hasFull_28 (by decide) ?_
      refine mf_iload_n 1 dX12_hasFull_30 rfl ?_
      refine mf_imul dX12_hasFull_31 ?_
      refine mf_iadd dX12_hasFull_32 ?_
      refine mf_iload_n 3 dX12_hasFull_33 rfl ?_
      refine mf_iadd dX12_hasFull_34 ?_
      refine mf_iald dX12_hasFull_35 (mo_a6 hM) (fun v4 => ?_)
      refine mf_cVi (rest := []) [.int v4] (aX12_showsFull (d + 0) q hM v4) mY_X12_showsFull dX12_hasFull_36 ml_X12_314 (mo_o hM) rfl rfl (Nat.le_of_ble_eq_true rfl) rfl (fun v5 => ?_)
      refine mf_if_eq (tgt := 46) dX12_hasFull_39 (by decide) ?_ ?_
      · refine mf_iconst (v := 0) dX12_hasFull_46 rfl ?_
        refine mf_istore_n [(2, .int 0), (0, .ref 218), (1, .int a1), (3, .int x2)] dX12_hasFull_47 (Nat.le_of_ble_eq_true rfl) rfl ?_
        refine mf_iinc 3 (x2 + 1) [(3, .int (x2 + 1)), (2, .int 0), (0, .ref 218), (1, .int a1)] dX12_hasFull_48 rfl rfl (Nat.le_of_ble_eq_true rfl) rfl ?_
        refine mf_goto (tgt := 4) dX12_hasFull_51 (by decide) ?_
        refine mf_sub [2, 3, 1, 0] rfl ?_
        exact h4 _ _
      · refine mf_iconst (v := 1) dX12_hasFull_42 rfl ?_
        refine mf_goto (tgt := 47) dX12_hasFull_43 (by decide) ?_
        refine mf_istore_n [(2, .int 1), (0, .ref 218), (1, .int a1), (3, .int x2)] dX12_hasFull_47 (Nat.le_of_ble_eq_true rfl) rfl ?_
        refine mf_iinc 3 (x2 + 1) [(3, .int (x2 + 1)), (2, .int 1), (0, .ref 218), (1, .int a1)] dX12_hasFull_48 rfl rfl (Nat.le_of_ble_eq_true rfl) rfl ?_
        refine mf_goto (tgt := 4) dX12_hasFull_51 (by decide) ?_
        refine mf_sub [2, 3, 1, 0] rfl ?_
        exact h4 _ _
set_option maxRecDepth 100000 in
set_option maxHeartbeats 4000000 in
theorem aX12_rivals (d : Nat) (q : m_S) (hM : isM q) (a1 : Int32) : AC rI yX12_rivals cX12_rivals 2 (some .int) (d + 2) [.ref 218, .int a1] q (fX12_rivals a1) := by
  refine ac_of (by decide +kernel) (Nat.le_of_ble_eq_true rfl) ?_
  unfold fX12_rivals
  show MF rI (yX12_rivals.cls, cX12_rivals, 2, (some .int), yX12_rivals.name, d + 2, 0, 0) 0 [(0, .ref 218), (1, .int a1)] [] q _
  refine mf_aload_n 0 dX12_rivals_0 rfl ?_
  refine mf_getr 12 6 dX12_rivals_1 fl_X12_33 (by decide) (by decide) rfl (mo_o hM) (mo_r6 hM) (by decide) ?_
  refine mf_sipush (v := 206) dX12_rivals_4 (by decide) ?_
  refine mf_iload_n 1 dX12_rivals_7 rfl ?_
  refine mf_iadd dX12_rivals_8 ?_
  refine mf_iald dX12_rivals_9 (mo_a6 hM) (fun v1 => ?_)
  refine mf_aload_n 0 dX12_rivals_10 rfl ?_
  refine mf_aload_n 0 dX12_rivals_11 rfl ?_
  refine mf_getr 12 6 dX12_rivals_12 fl_X12_33 (by decide) (by decide) rfl (mo_o hM) (mo_r6 hM) (by decide) ?_
  refine mf_bipush (v := 106) dX12_rivals_15 (by decide) ?_
  refine mf_iload_n 1 dX12_rivals_17 rfl ?_
  refine mf_iadd dX12_rivals_18 ?_
  refine mf_iald dX12_rivals_19 (mo_a6 hM) (fun v2 => ?_)
  refine mf_cVi (rest := [.int v1]) [.int v2] (aX12_routesOf (d + 0) q hM v2) mY_X12_routesOf dX12_rivals_20 ml_X12_326 (mo_o hM) rfl rfl (Nat.le_of_ble_eq_true rfl) rfl (fun v3 => ?_)
  refine mf_ior dX12_rivals_23 ?_
  refine mf_iconst (v := 1) dX12_rivals_24 rfl ?_
  refine mf_iload_n 1 dX12_rivals_25 rfl ?_
  refine mf_ishl dX12_rivals_26 ?_
  refine mf_iconst (v := -1) dX12_rivals_27 rfl ?_
  refine mf_ixor dX12_rivals_28 ?_
  refine mf_iand dX12_rivals_29 ?_
  exact mf_ireturn dX12_rivals_30 rfl rfl ⟨rfl, rfl⟩
set_option maxRecDepth 100000 in
set_option maxHeartbeats 4000000 in
theorem aX12_whySet (d : Nat) (q : m_S) (hM : isM q) (a1 : Int32) : AC rI yX12_whySet cX12_whySet 2 (some .int) (d + 5) [.ref 218, .int a1] q (fX12_whySet a1) := by
  refine ac_of (by decide +kernel) (Nat.le_of_ble_eq_true rfl) ?_
  unfold fX12_whySet
  show MF rI (yX12_whySet.cls, cX12_whySet, 2, (some .int), yX12_whySet.name, d + 5, 0, 0) 0 [(0, .ref 218), (1, .int a1)] [] q _
  refine mf_aload_n 0 dX12_whySet_0 rfl ?_
  refine mf_getr 12 6 dX12_whySet_1 fl_X12_33 (by decide) (by decide) rfl (mo_o hM) (mo_r6 hM) (by decide) ?_
  refine mf_sipush (v := 229) dX12_whySet_4 (by decide) ?_
  refine mf_iload_n 1 dX12_whySet_7 rfl ?_
  refine mf_iadd dX12_whySet_8 ?_
  refine mf_iald dX12_whySet_9 (mo_a6 hM) (fun v1 => ?_)
  refine mf_if_eq (tgt := 15) dX12_whySet_10 (by decide) ?_ ?_
  · refine mf_aload_n 0 dX12_whySet_15 rfl ?_
    refine mf_iload_n 1 dX12_whySet_16 rfl ?_
    refine mf_cVi (rest := []) [.int a1] (aX12_rivals (d + 2) q hM a1) mY_X12_rivals dX12_whySet_17 ml_X12_348 (mo_o hM) rfl rfl (Nat.le_of_ble_eq_true rfl) rfl (fun v2 => ?_)
    refine mf_aload_n 0 dX12_whySet_20 rfl ?_
    refine mf_cVi (rest := [.int v2]) [] (aX12_busy (d + 3) q hM) mY_X12_busy dX12_whySet_21 ml_X12_345 (mo_o hM) rfl rfl (Nat.le_of_ble_eq_true rfl) rfl (fun v3 => ?_)
    refine mf_iand dX12_whySet_24 ?_
    refine mf_if_eq (tgt := 30) dX12_whySet_25 (by decide) ?_ ?_
    · refine mf_aload_n 0 dX12_whySet_30 rfl ?_
      refine mf_iload_n 1 dX12_whySet_31 rfl ?_
      refine mf_cVi (rest := []) [.int a1] (aX12_wrongPoints (d + 3) q hM a1) mY_X12_wrongPoints dX12_whySet_32 ml_X12_351 (mo_o hM) rfl rfl (Nat.le_of_ble_eq_true rfl) rfl (fun v4 => ?_)
      refine mf_if_eq (tgt := 40) dX12_whySet_35 (by decide) ?_ ?_
      · refine mf_aload_n 0 dX12_whySet_40 rfl ?_
        refine mf_iload_n 1 dX12_whySet_41 rfl ?_
        refine mf_cVi (rest := []) [.int a1] (aX12_hasFull (d + 0) q hM a1) mY_X12_hasFull dX12_whySet_42 ml_X12_354 (mo_o hM) rfl rfl (Nat.le_of_ble_eq_true rfl) rfl (fun v5 => ?_)
        refine mf_if_eq (tgt := 52) dX12_whySet_45 (by decide) ?_ ?_
        · refine mf_aload_n 0 dX12_whySet_52 rfl ?_
          refine mf_getr 12 6 dX12_whySet_53 fl_X12_33 (by decide) (by decide) rfl (mo_o hM) (mo_r6 hM) (by decide) ?_
          refine mf_bipush (v := 116) dX12_whySet_56 (by decide) ?_
          refine mf_iload_n 1 dX12_whySet_58 rfl ?_
          refine mf_iadd dX12_whySet_59 ?_
          refine mf_iald dX12_whySet_60 (mo_a6 hM) (fun v6 => ?_)
          refine mf_if_ne (tgt := 68) dX12_whySet_61 (by decide) ?_ ?_
          · refine mf_iconst (v := 0) dX12_whySet_68 rfl ?_
            exact mf_ireturn dX12_whySet_69 rfl rfl ⟨rfl, rfl⟩
          · refine mf_iconst (v := 5) dX12_whySet_64 rfl ?_
            refine mf_goto (tgt := 69) dX12_whySet_65 (by decide) ?_
            exact mf_ireturn dX12_whySet_69 rfl rfl ⟨rfl, rfl⟩
        · refine mf_iconst (v := 4) dX12_whySet_48 rfl ?_
          refine mf_goto (tgt := 69) dX12_whySet_49 (by decide) ?_
          exact mf_ireturn dX12_whySet_69 rfl rfl ⟨rfl, rfl⟩
      · refine mf_iconst (v := 3) dX12_whySet_38 rfl ?_
        exact mf_ireturn dX12_whySet_39 rfl rfl ⟨rfl, rfl⟩
    · refine mf_iconst (v := 2) dX12_whySet_28 rfl ?_
      exact mf_ireturn dX12_whySet_29 rfl rfl ⟨rfl, rfl⟩
  · refine mf_iconst (v := 1) dX12_whySet_13 rfl ?_
    exact mf_ireturn dX12_whySet_14 rfl rfl ⟨rfl, rfl⟩
