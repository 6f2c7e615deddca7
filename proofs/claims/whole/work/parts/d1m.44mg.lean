set_option maxRecDepth 100000 in
set_option maxHeartbeats 4000000 in
theorem aX12_rounds (d : Nat) (q : m_S) (hM : isM q)  : AC rI yX12_rounds cX12_rounds 7 (some .int) (d + 5) [.ref 218] q (fX12_rounds ) := by
  refine ac_of (by decide +kernel) (Nat.le_of_ble_eq_true rfl) ?_
  unfold fX12_rounds
  show MF rI (yX12_rounds.cls, cX12_rounds, 7, (some .int), yX12_rounds.name, d + 5, 0, 0) 0 [(0, .ref 218)] [] q _
  refine mf_aload_n 0 dX12_rounds_0 rfl ?_
  refine mf_iconst (v := 0) dX12_rounds_1 rfl ?_
  refine mf_puti 12 0 dX12_rounds_2 fl_X12_1 (by decide) (by decide) rfl rfl (mo_o hM) ?_
  refine mf_iconst (v := 1) dX12_rounds_5 rfl ?_
  refine mf_aload_n 0 dX12_rounds_6 rfl ?_
  refine mf_getr 12 6 dX12_rounds_7 fl_X12_33 (by decide) (by decide) rfl (mo_o hM) (mo_r6 hM) (by decide) ?_
  refine mf_iconst (v := 4) dX12_rounds_10 rfl ?_
  refine mf_iald dX12_rounds_11 (mo_a6 hM) (fun v1 => ?_)
  refine mf_ishl dX12_rounds_12 ?_
  refine mf_iconst (v := 1) dX12_rounds_13 rfl ?_
  refine mf_isub dX12_rounds_14 ?_
  refine mf_istore_n [(1, .int ((1 <<< (v1 &&& 31)) - 1)), (0, .ref 218)] dX12_rounds_15 (Nat.le_of_ble_eq_true rfl) rfl ?_
  refine mf_iconst (v := 0) dX12_rounds_16 rfl ?_
  refine mf_istore_n [(2, .int 0), (1, .int ((1 <<< (v1 &&& 31)) - 1)), (0, .ref 218)] dX12_rounds_17 (Nat.le_of_ble_eq_true rfl) rfl ?_
  refine mf_sub [2, 1, 0] rfl ?_
  refine mf_lz1 (lv := fun x2 => [(0, .ref 218), (1, .int ((1 <<< (v1 &&& 31)) - 1)), (2, .int x2)]) (fun L18 h18 x2 => ?_) _ _
  show MF rI (yX12_rounds.cls, cX12_rounds, 7, (some .int), yX12_rounds.name, d + 5, 0, 0) 18 [(0, .ref 218), (1, .int ((1 <<< (v1 &&& 31)) - 1)), (2, .int x2)] [] q _
  refine mf_iload_n 2 dX12_rounds_18 rfl ?_
  refine mf_iload_n 1 dX12_rounds_19 rfl ?_
  refine mf_icmp_gt (tgt := 58) dX12_rounds_20 (by decide) ?_ ?_
  · refine mf_iconst (v := 1) dX12_rounds_58 rfl ?_
    refine mf_istore_n [(2, .int 1), (0, .ref 218), (1, .int ((1 <<< (v1 &&& 31)) - 1))] dX12_rounds_59 (Nat.le_of_ble_eq_true rfl) rfl ?_
    refine mf_sub [1, 2, 0] rfl ?_
    refine mf_lz1 (lv := fun x3 => [(0, .ref 218), (1, .int ((1 <<< (v1 &&& 31)) - 1)), (2, .int x3)]) (fun L60 h60 x3 => ?_) _ _
    show MF rI (yX12_rounds.cls, cX12_rounds, 7, (some .int), yX12_rounds.name, d + 5, 0, 0) 60 [(0, .ref 218), (1, .int ((1 <<< (v1 &&& 31)) - 1)), (2, .int x3)] [] q _
    refine mf_iload_n 2 dX12_rounds_60 rfl ?_
    refine mf_iload_n 1 dX12_rounds_61 rfl ?_
    refine mf_icmp_gt (tgt := 173) dX12_rounds_62 (by decide) ?_ ?_
    · refine mf_aload_n 0 dX12_rounds_173 rfl ?_
      refine mf_getr 12 26 dX12_rounds_174 fl_X12_62 (by decide) (by decide) rfl (mo_o hM) (mo_r26 hM) (by decide) ?_
      refine mf_iload_n 1 dX12_rounds_177 rfl ?_
      refine mf_iald dX12_rounds_178 (mo_a26 hM) (fun v4 => ?_)
      exact mf_ireturn dX12_rounds_179 rfl rfl ⟨rfl, rfl⟩
    · refine mf_aload_n 0 dX12_rounds_65 rfl ?_
      refine mf_getr 12 26 dX12_rounds_66 fl_X12_62 (by decide) (by decide) rfl (mo_o hM) (mo_r26 hM) (by decide) ?_
      refine mf_iload_n 2 dX12_rounds_69 rfl ?_
      refine mf_iald dX12_rounds_70 (mo_a26 hM) (fun v5 => ?_)
      refine mf_iconst (v := 1) dX12_rounds_71 rfl ?_
      refine mf_icmp_ne (tgt := 78) dX12_rounds_72 (by decide) ?_ ?_
      · refine mf_iload_n 2 dX12_rounds_78 rfl ?_
        refine mf_iload_n 2 dX12_rounds_79 rfl ?_
        refine mf_ineg dX12_rounds_80 ?_
        refine mf_iand dX12_rounds_81 ?_
        refine mf_istore_n [(3, .int (x3 &&& (-x3))), (0, .ref 218), (1, .int ((1 <<< (v1 &&& 31)) - 1)), (2, .int x3)] dX12_rounds_82 (Nat.le_of_ble_eq_true rfl) rfl ?_
        refine mf_iload_n 3 dX12_rounds_83 rfl ?_
        refine mf_iload_n 0 dX12_rounds_84 rfl ?_
        refine mf_ixor dX12_rounds_85 ?_
        refine mf_istore [(4, .int (x3 ^^^ (x3 &&& (-x3)))), (3, .int (x3 &&& (-x3))), (0, .ref 218), (1, .int ((1 <<< (v1 &&& 31)) - 1)), (2, .int x3)] dX12_rounds_86 (Nat.le_of_ble_eq_true rfl) rfl ?_
        refine mf_iload 0 dX12_rounds_88 rfl ?_
        refine mf_istore [(5, .int (x3 ^^^ (x3 &&& (-x3)))), (4, .int (x3 ^^^ (x3 &&& (-x3)))), (3, .int (x3 &&& (-x3))), (0, .ref 218), (1, .int ((1 <<< (v1 &&& 31)) - 1)), (2, .int x3)] dX12_rounds_90 (Nat.le_of_ble_eq_true rfl) rfl ?_
        refine mf_sub [3, 4, 5, 2, 1, 0] rfl ?_
        refine mf_lz1 (lv := fun x6 => [(0, .ref 218), (1, .int ((1 <<< (v1 &&& 31)) - 1)), (2, .int x3), (3, .int (x3 &&& (-x3))), (4, .int (x3 ^^^ (x3 &&& (-x3)))), (5, .int x6)]) (fun L92 h92 x6 => ?_) _ _
        show MF rI (yX12_rounds.cls, cX12_rounds, 7, (some .int), yX12_rounds.name, d + 5, 0, 0) 92 [(0, .ref 218), (1, .int ((1 <<< (v1 &&& 31)) - 1)), (2, .int x3), (3, .int (x3 &&& (-x3))), (4, .int (x3 ^^^ (x3 &&& (-x3)))), (5, .int x6)] [] q _
        refine mf_iload 5 dX12_rounds_92 rfl ?_
        refine mf_if_lt (tgt := 167) dX12_rounds_94 (by decide) ?_ ?_
        · refine mf_iinc 2 (x3 + 1) [(2, .int (x3 + 1)), (0, .ref 218), (1, .int ((1 <<< (v1 &&& 31)) - 1)), (3, .int (x3 &&& (-x3))), (4, .int (x3 ^^^ (x3 &&& (-x3)))), (5, .int x6)] dX12_rounds_167 rfl rfl (Nat.le_of_ble_eq_true rfl) rfl ?_
          refine mf_goto (tgt := 60) dX12_rounds_170 (by decide) ?_
          refine mf_sub [1, 2, 0] rfl ?_
          exact h60 _
        · refine mf_iload 5 dX12_rounds_97 rfl ?_
          refine mf_iload_n 3 dX12_rounds_99 rfl ?_
          refine mf_ior dX12_rounds_100 ?_
          refine mf_istore [(6, .int (x6 ||| (x3 &&& (-x3)))), (0, .ref 218), (1, .int ((1 <<< (v1 &&& 31)) - 1)), (2, .int x3), (3, .int (x3 &&& (-x3))), (4, .int (x3 ^^^ (x3 &&& (-x3)))), (5, .int x6)] dX12_rounds_101 (Nat.le_of_ble_eq_true rfl) rfl ?_
          refine mf_iload 0 dX12_rounds_103 rfl ?_
          refine mf_iload_n 3 dX12_rounds_105 rfl ?_
          refine mf_jo0 (pj := 146) (lvj := [(0, .ref 218), (1, .int ((1 <<< (v1 &&& 31)) - 1)), (2, .int x3), (3, .int (x3 &&& (-x3))), (4, .int (x3 ^^^ (x3 &&& (-x3)))), (5, .int x6)]) (stj := []) ?_ (fun J146 hJ146 => ?_)
          · show MF rI (yX12_rounds.cls, cX12_rounds, 7, (some .int), yX12_rounds.name, d + 5, 0, 0) 146 [(0, .ref 218), (1, .int ((1 <<< (v1 &&& 31)) - 1)), (2, .int x3), (3, .int (x3 &&& (-x3))), (4, .int (x3 ^^^ (x3 &&& (-x3)))), (5, .int x6)] [] q _
            refine mf_iload 5 dX12_rounds_146 rfl ?_
            refine mf_if_ne (tgt := 155) dX12_rounds_148 (by decide) ?_ ?_
            · refine mf_iload 5 dX12_rounds_155 rfl ?_
              refine mf_iconst (v := 1) dX12_rounds_157 rfl ?_
              refine mf_isub dX12_rounds_158 ?_
              refine mf_iload 4 dX12_rounds_159 rfl ?_
              refine mf_iand dX12_rounds_161 ?_
              refine mf_istore [(5, .int ((x6 - 1) &&& (x3 ^^^ (x3 &&& (-x3))))), (0, .ref 218), (1, .int ((1 <<< (v1 &&& 31)) - 1)), (2, .int x3), (3, .int (x3 &&& (-x3))), (4, .int (x3 ^^^ (x3 &&& (-x3))))] dX12_rounds_162 (Nat.le_of_ble_eq_true rfl) rfl ?_
              refine mf_goto (tgt := 92) dX12_rounds_164 (by decide) ?_
              refine mf_sub [1, 2, 3, 4, 5, 0] rfl ?_
              exact h92 _
            · refine mf_iconst (v := -1) dX12_rounds_151 rfl ?_
              refine mf_goto (tgt := 162) dX12_rounds_152 (by decide) ?_
              refine mf_istore [(5, .int (-1)), (0, .ref 218), (1, .int ((1 <<< (v1 &&& 31)) - 1)), (2, .int x3), (3, .int (x3 &&& (-x3))), (4, .int (x3 ^^^ (x3 &&& (-x3))))] dX12_rounds_162 (Nat.le_of_ble_eq_true rfl) rfl ?_
              refine mf_goto (tgt := 92) dX12_rounds_164 (by decide) ?_
              refine mf_sub [1, 2, 3, 4, 5, 0] rfl ?_
              exact h92 _
          refine mf_icmp_eq (tgt := 146) dX12_rounds_106 (by decide) ?_ ?_
          · refine mf_sub [1, 2, 3, 4, 5, 6] rfl ?_
            exact hJ146
          · refine mf_aload_n 1 dX12_rounds_109 rfl ?_
            refine mf_getr 12 26 dX12_rounds_110 fl_X12_62 (by decide) (by decide) rfl (mo_o hM) (mo_r26 hM) (by decide) ?_
            refine mf_iload 0 dX12_rounds_113 rfl ?_
            refine mf_iald dX12_rounds_115 (mo_a26 hM) (fun v7 => ?_)
            refine mf_iconst (v := 1) dX12_rounds_116 rfl ?_
            refine mf_icmp_ne (tgt := 146) dX12_rounds_117 (by decide) ?_ ?_
            · refine mf_sub [1, 2, 3, 4, 5, 6] rfl ?_
              exact hJ146
            · refine mf_aload_n 1 dX12_rounds_120 rfl ?_
              refine mf_getr 12 26 dX12_rounds_121 fl_X12_62 (by decide) (by decide) rfl (mo_o hM) (mo_r26 hM) (by decide) ?_
              refine mf_iload_n 3 dX12_rounds_124 rfl ?_
              refine mf_aload_n 1 dX12_rounds_125 rfl ?_
              refine mf_getr 12 26 dX12_rounds_126 fl_X12_62 (by decide) (by decide) rfl (mo_o hM) (mo_r26 hM) (by decide) ?_
              refine mf_iload_n 3 dX12_rounds_129 rfl ?_
              refine mf_iald dX12_rounds_130 (mo_a26 hM) (fun v8 => ?_)
              refine mf_iconst (v := 1) dX12_rounds_131 rfl ?_
              refine mf_aload_n 1 dX12_rounds_132 rfl ?_
              refine mf_getr 12 26 dX12_rounds_133 fl_X12_62 (by decide) (by decide) rfl (mo_o hM) (mo_r26 hM) (by decide) ?_
              refine mf_iload_n 3 dX12_rounds_136 rfl ?_
              refine mf_iload 0 dX12_rounds_137 rfl ?_
              refine mf_ixor dX12_rounds_139 ?_
              refine mf_iald dX12_rounds_140 (mo_a26 hM) (fun v9 => ?_)
              refine mf_iadd dX12_rounds_141 ?_
              refine mf_cSi (rest := [.int x3, .ref 228]) [.int v8, .int (1 + v9)] (aX12_lesser (d + 3) q v8 (1 + v9)) mY_X12_lesser dX12_rounds_142 ml_X12_407 rfl rfl (Nat.le_of_ble_eq_true rfl) rfl (fun v10 => ?_)
              refine mf_iast dX12_rounds_145 (mo_a26 hM) ?_
              refine mf_sub [1, 2, 3, 4, 5, 6] rfl ?_
              exact hJ146
      · refine mf_goto (tgt := 167) dX12_rounds_75 (by decide) ?_
        refine mf_iinc 2 (x3 + 1) [(2, .int (x3 + 1)), (0, .ref 218), (1, .int ((1 <<< (v1 &&& 31)) - 1))] dX12_rounds_167 rfl rfl (Nat.le_of_ble_eq_true rfl) rfl ?_
        refine mf_goto (tgt := 60) dX12_rounds_170 (by decide) ?_
        refine mf_sub [1, 2, 0] rfl ?_
        exact h60 _
  · refine mf_aload_n 0 dX12_rounds_23 rfl ?_
    refine mf_getr 12 26 dX12_rounds_24 fl_X12_62 (by decide) (by decide) rfl (mo_o hM) (mo_r26 hM) (by decide) ?_
    refine mf_iload_n 2 dX12_rounds_27 rfl ?_
    refine mf_iload_n 2 dX12_rounds_28 rfl ?_
    refine mf_if_ne (tgt := 36) dX12_rounds_29 (by decide) ?_ ?_
    · refine mf_aload_n 0 dX12_rounds_36 rfl ?_
      refine mf_iload_n 2 dX12_rounds_37 rfl ?_
      refine mf_cVi (rest := [.int x2, .ref 228]) [.int x2] (aX12_areTogether (d + 0) q hM x2) mY_X12_areTogether dX12_rounds_38 ml_X12_397 (mo_o hM) rfl rfl (Nat.le_of_ble_eq_true rfl) rfl (fun v11 => ?_)
      refine mf_if_eq (tgt := 48) dX12_rounds_41 (by decide) ?_ ?_
      · refine mf_ldc_w dX12_rounds_48 cl_X12_406 ?_
        refine mf_iast dX12_rounds_51 (mo_a26 hM) ?_
        refine mf_iinc 2 (x2 + 1) [(2, .int (x2 + 1)), (0, .ref 218), (1, .int ((1 <<< (v1 &&& 31)) - 1))] dX12_rounds_52 rfl rfl (Nat.le_of_ble_eq_true rfl) rfl ?_
        refine mf_goto (tgt := 18) dX12_rounds_55 (by decide) ?_
        refine mf_sub [1, 2, 0] rfl ?_
        exact h18 _
      · refine mf_iconst (v := 1) dX12_rounds_44 rfl ?_
        refine mf_goto (tgt := 51) dX12_rounds_45 (by decide) ?_
        refine mf_iast dX12_rounds_51 (mo_a26 hM) ?_
        refine mf_iinc 2 (x2 + 1) [(2, .int (x2 + 1)), (0, .ref 218), (1, .int ((1 <<< (v1 &&& 31)) - 1))] dX12_rounds_52 rfl rfl (Nat.le_of_ble_eq_true rfl) rfl ?_
        refine mf_goto (tgt := 18) dX12_rounds_55 (by decide) ?_
        refine mf_sub [1, 2, 0] rfl ?_
        exact h18 _
    · refine mf_iconst (v := 0) dX12_rounds_32 rfl ?_
      refine mf_goto (tgt := 51) dX12_rounds_33 (by decide) ?_
      refine mf_iast dX12_rounds_51 (mo_a26 hM) ?_
      refine mf_iinc 2 (x2 + 1) [(2, .int (x2 + 1)), (0, .ref 218), (1, .int ((1 <<< (v1 &&& 31)) - 1))] dX12_rounds_52 rfl rfl (Nat.le_of_ble_eq_true rfl) rfl ?_
      refine mf_goto (tgt := 18) dX12_rounds_55 (by decide) ?_
      refine mf_sub [1, 2, 0] rfl ?_
      exact h18 _
set_option maxRecDepth 100000 in
set_option maxHeartbeats 4000000 in
theorem aX12_endOf (d : Nat) (q : m_S) (hM : isM q) (a1 : Int32) : AC rI yX12_endOf cX12_endOf 2 (some .int) (d + 1) [.ref 218, .int a1] q (fX12_endOf a1) := by
  refine ac_of (by decide +kernel) (Nat.le_of_ble_eq_true rfl) ?_
  unfold fX12_endOf
  show MF rI (yX12_endOf.cls, cX12_endOf, 2, (some .int), yX12_endOf.name, d + 1, 0, 0) 0 [(0, .ref 218), (1, .int a1)] [] q _
  refine mf_aload_n 0 dX12_endOf_0 rfl ?_
  refine mf_getr 12 6 dX12_endOf_1 fl_X12_33 (by decide) (by decide) rfl (mo_o hM) (mo_r6 hM) (by decide) ?_
  refine mf_bipush (v := 126) dX12_endOf_4 (by decide) ?_
  refine mf_bipush (v := 6) dX12_endOf_6 (by decide) ?_
  refine mf_iload_n 1 dX12_endOf_8 rfl ?_
  refine mf_imul dX12_endOf_9 ?_
  refine mf_iadd dX12_endOf_10 ?_
  refine mf_aload_n 0 dX12_endOf_11 rfl ?_
  refine mf_getr 12 6 dX12_endOf_12 fl_X12_33 (by decide) (by decide) rfl (mo_o hM) (mo_r6 hM) (by decide) ?_
  refine mf_bipush (v := 116) dX12_endOf_15 (by decide) ?_
  refine mf_iload_n 1 dX12_endOf_17 rfl ?_
  refine mf_iadd dX12_endOf_18 ?_
  refine mf_iald dX12_endOf_19 (mo_a6 hM) (fun v1 => ?_)
  refine mf_iadd dX12_endOf_20 ?_
  refine mf_iconst (v := 1) dX12_endOf_21 rfl ?_
  refine mf_isub dX12_endOf_22 ?_
  refine mf_iald dX12_endOf_23 (mo_a6 hM) (fun v2 => ?_)
  exact mf_ireturn dX12_endOf_24 rfl rfl ⟨rfl, rfl⟩
set_option maxRecDepth 100000 in
set_option maxHeartbeats 4000000 in
theorem aX12_isFrom (d : Nat) (q : m_S) (hM : isM q) (a1 : Int32) (a2 : Int32) (a3 : Int32) : AC rI yX12_isFrom cX12_isFrom 4 (some .boolean) (d + 1) [.ref 218, .int a1, .int a2, .int a3] q (fX12_isFrom a1 a2 a3) := by
  refine ac_of (by decide +kernel) (Nat.le_of_ble_eq_true rfl) ?_
  unfold fX12_isFrom
  show MF rI (yX12_isFrom.cls, cX12_isFrom, 4, (some .boolean), yX12_isFrom.name, d + 1, 0, 0) 0 [(0, .ref 218), (1, .int a1), (2, .int a2), (3, .int a3)] [] q _
  refine mf_aload_n 0 dX12_isFrom_0 rfl ?_
  refine mf_getr 12 6 dX12_isFrom_1 fl_X12_33 (by decide) (by decide) rfl (mo_o hM) (mo_r6 hM) (by decide) ?_
  refine mf_bipush (v := 116) dX12_isFrom_4 (by decide) ?_
  refine mf_iload_n 1 dX12_isFrom_6 rfl ?_
  refine mf_iadd dX12_isFrom_7 ?_
  refine mf_iald dX12_isFrom_8 (mo_a6 hM) (fun v1 => ?_)
  refine mf_if_le (tgt := 58) dX12_isFrom_9 (by decide) ?_ ?_
  · refine mf_iconst (v := 0) dX12_isFrom_58 rfl ?_
    exact mf_ireturn dX12_isFrom_59 rfl rfl ⟨rfl, rfl⟩
  · refine mf_aload_n 0 dX12_isFrom_12 rfl ?_
    refine mf_getr 12 6 dX12_isFrom_13 fl_X12_33 (by decide) (by decide) rfl (mo_o hM) (mo_r6 hM) (by decide) ?_
    refine mf_bipush (v := 90) dX12_isFrom_16 (by decide) ?_
    refine mf_aload_n 0 dX12_isFrom_18 rfl ?_
    refine mf_getr 12 6 dX12_isFrom_19 fl_X12_33 (by decide) (by decide) rfl (mo_o hM) (mo_r6 hM) (by decide) ?_
    refine mf_bipush (v := 106) dX12_isFrom_22 (by decide) ?_
    refine mf_iload_n 1 dX12_isFrom_24 rfl ?_
    refine mf_iadd dX12_isFrom_25 ?_
    refine mf_iald dX12_isFrom_26 (mo_a6 hM) (fun v2 => ?_)
    refine mf_iadd dX12_isFrom_27 ?_
    refine mf_iald dX12_isFrom_28 (mo_a6 hM) (fun v3 => ?_)
    refine mf_iload_n 2 dX12_isFrom_29 rfl ?_
    refine mf_icmp_ne (tgt := 58) dX12_isFrom_30 (by decide) ?_ ?_
    · refine mf_iconst (v := 0) dX12_isFrom_58 rfl ?_
      exact mf_ireturn dX12_isFrom_59 rfl rfl ⟨rfl, rfl⟩
    · refine mf_aload_n 0 dX12_isFrom_33 rfl ?_
      refine mf_getr 12 6 dX12_isFrom_34 fl_X12_33 (by decide) (by decide) rfl (mo_o hM) (mo_r6 hM) (by decide) ?_
      refine mf_bipush (v := 98) dX12_isFrom_37 (by decide) ?_
      refine mf_aload_n 0 dX12_isFrom_39 rfl ?_
      refine mf_getr 12 6 dX12_isFrom_40 fl_X12_33 (by decide) (by decide) rfl (mo_o hM) (mo_r6 hM) (by decide) ?_
      refine mf_bipush (v := 106) dX12_isFrom_43 (by decide) ?_
      refine mf_iload_n 1 dX12_isFrom_45 rfl ?_
      refine mf_iadd dX12_isFrom_46 ?_
      refine mf_iald dX12_isFrom_47 (mo_a6 hM) (fun v4 => ?_)
      refine mf_iadd dX12_isFrom_48 ?_
      refine mf_iald dX12_isFrom_49 (mo_a6 hM) (fun v5 => ?_)
      refine mf_iload_n 3 dX12_isFrom_50 rfl ?_
      refine mf_icmp_ne (tgt := 58) dX12_isFrom_51 (by decide) ?_ ?_
      · refine mf_iconst (v := 0) dX12_isFrom_58 rfl ?_
        exact mf_ireturn dX12_isFrom_59 rfl rfl ⟨rfl, rfl⟩
      · refine mf_iconst (v := 1) dX12_isFrom_54 rfl ?_
        refine mf_goto (tgt := 59) dX12_isFrom_55 (by decide) ?_
        exact mf_ireturn dX12_isFrom_59 rfl rfl ⟨rfl, rfl⟩
set_option maxRecDepth 100000 in
set_option maxHeartbeats 4000000 in
theorem aX12_wantsBy (d : Nat) (q : m_S) (hM : isM q) (a1 : Int32) (a2 : Int32) : AC rI yX12_wantsBy cX12_wantsBy 3 (some .int) (d + 2) [.ref 218, .int a1, .int a2] q (fX12_wantsBy a1 a2) := by
  refine ac_of (by decide +kernel) (Nat.le_of_ble_eq_true rfl) ?_
  unfold fX12_wantsBy
  show MF rI (yX12_wantsBy.cls, cX12_wantsBy, 3, (some .int), yX12_wantsBy.name, d + 2, 0, 0) 0 [(0, .ref 218), (1, .int a1), (2, .int a2)] [] q _
  refine mf_aload_n 0 dX12_wantsBy_0 rfl ?_
  refine mf_iload_n 1 dX12_wantsBy_1 rfl ?_
  refine mf_cVi (rest := []) [.int a1] (aX12_sectionsOf (d + 0) q hM a1) mY_X12_sectionsOf dX12_wantsBy_2 ml_X12_304 (mo_o hM) rfl rfl (Nat.le_of_ble_eq_true rfl) rfl (fun v1 => ?_)
  refine mf_iload_n 2 dX12_wantsBy_5 rfl ?_
  refine mf_cSi (rest := []) [.int v1, .int a2] (aX12_bitOf (d + 0) q v1 a2) mY_X12_bitOf dX12_wantsBy_6 ml_X12_280 rfl rfl (Nat.le_of_ble_eq_true rfl) rfl (fun v2 => ?_)
  refine mf_if_eq (tgt := 16) dX12_wantsBy_9 (by decide) ?_ ?_
  · refine mf_iconst (v := 1) dX12_wantsBy_16 rfl ?_
    refine mf_aload_n 0 dX12_wantsBy_17 rfl ?_
    refine mf_getr 12 29 dX12_wantsBy_18 fl_X12_65 (by decide) (by decide) rfl (mo_o hM) (mo_r29 hM) (by decide) ?_
    refine mf_aload_n 0 dX12_wantsBy_21 rfl ?_
    refine mf_iload_n 1 dX12_wantsBy_22 rfl ?_
    refine mf_cVi (rest := [.ref 229, .int 1]) [.int a1] (aX12_endOf (d + 0) q hM a1) mY_X12_endOf dX12_wantsBy_23 ml_X12_410 (mo_o hM) rfl rfl (Nat.le_of_ble_eq_true rfl) rfl (fun v3 => ?_)
    refine mf_iald dX12_wantsBy_26 (mo_a29 hM) (fun v4 => ?_)
    refine mf_iadd dX12_wantsBy_27 ?_
    exact mf_ireturn dX12_wantsBy_28 rfl rfl ⟨rfl, rfl⟩
  · refine mf_iconst (v := 1) dX12_wantsBy_12 rfl ?_
    refine mf_goto (tgt := 28) dX12_wantsBy_13 (by decide) ?_
    exact mf_ireturn dX12_wantsBy_28 rfl rfl ⟨rfl, rfl⟩
set_option maxRecDepth 100000 in
set_option maxHeartbeats 4000000 in
theorem aX12_laysWants (d : Nat) (q : m_S) (hM : isM q) (a1 : Int32) (a2 : Int32) : AC rU yX12_laysWants cX12_laysWants 6 none (d + 3) [.ref 218, .int a1, .int a2] q (fX12_laysWants a1 a2) := by
  refine ac_of (by decide +kernel) (Nat.le_of_ble_eq_true rfl) ?_
  unfold fX12_laysWants
  show MF rU (yX12_laysWants.cls, cX12_laysWants, 6, none, yX12_laysWants.name, d + 3, 0, 0) 0 [(0, .ref 218), (1, .int a1), (2, .int a2)] [] q _
  refine mf_iconst (v := 0) dX12_laysWants_0 rfl ?_
  refine mf_istore_n [(3, .int 0), (0, .ref 218), (1, .int a1), (2, .int a2)] dX12_laysWants_1 (Nat.le_of_ble_eq_true rfl) rfl ?_
  refine mf_sub [1, 2, 3, 0] rfl ?_
  refine mf_lz1 (lv := fun x1 => [(0, .ref 218), (1, .int a1), (2, .int a2), (3, .int x1)]) (fun L2 h2 x1 => ?_) _ _
  show MF rU (yX12_laysWants.cls, cX12_laysWants, 6, none, yX12_laysWants.name, d + 3, 0, 0) 2 [(0, .ref 218), (1, .int a1), (2, .int a2), (3, .int x1)] [] q _
  refine mf_iload_n 3 dX12_laysWants_2 rfl ?_
  refine mf_bipush (v := 12) dX12_laysWants_3 (by decide) ?_
  refine mf_icmp_ge (tgt := 23) dX12_laysWants_5 (by decide) ?_ ?_
  · refine mf_iconst (v := 1) dX12_laysWants_23 rfl ?_
    refine mf_istore_n [(3, .int 1), (0, .ref 218), (1, .int a1), (2, .int a2)] dX12_laysWants_24 (Nat.le_of_ble_eq_true rfl) rfl ?_
    refine mf_sub [1, 2, 3, 0] rfl ?_
    refine mf_lz1 (lv := fun x2 => [(0, .ref 218), (1, .int a1), (2, .int a2), (3, .int x2)]) (fun L25 h25 x2 => ?_) _ _
    show MF rU (yX12_laysWants.cls, cX12_laysWants, 6, none, yX12_laysWants.name, d + 3, 0, 0) 25 [(0, .ref 218), (1, .int a1), (2, .int a2), (3, .int x2)] [] q _
    refine mf_iload_n 3 dX12_laysWants_25 rfl ?_
    refine mf_if_eq (tgt := 122) dX12_laysWants_26 (by decide) ?_ ?_
    · exact mf_return dX12_laysWants_122 rfl ⟨rfl, rfl⟩
    · refine mf_iconst (v := 0) dX12_laysWants_29 rfl ?_
      refine mf_istore_n [(3, .int 0), (0, .ref 218), (1, .int a1), (2, .int a2)] dX12_laysWants_30 (Nat.le_of_ble_eq_true rfl) rfl ?_
      refine mf_iconst (v := 0) dX12_laysWants_31 rfl ?_
      refine mf_istore [(4, .int 0), (3, .int 0), (0, .ref 218), (1, .int a1), (2, .int a2)] dX12_laysWants_32 (Nat.le_of_ble_eq_true rfl) rfl ?_
      refine mf_sub [2, 3, 4, 1, 0] rfl ?_
      refine mf_lz2 (lv := fun x3 x4 => [(0, .ref 218), (1, .int a1), (2, .int a2), (3, .int x3), (4, .int x4)]) (fun L34 h34 x3 x4 => ?_) _ _ _
      show MF rU (yX12_laysWants.cls, cX12_laysWants, 6, none, yX12_laysWants.name, d + 3, 0, 0) 34 [(0, .ref 218), (1, .int a1), (2, .int a2), (3, .int x3), (4, .int x4)] [] q _
      refine mf_iload 4 dX12_laysWants_34 rfl ?_
      refine mf_aload_n 0 dX12_laysWants_36 rfl ?_
      refine mf_getr 12 6 dX12_laysWants_37 fl_X12_33 (by decide) (by decide) rfl (mo_o hM) (mo_r6 hM) (by decide) ?_
      refine mf_iconst (v := 4) dX12_laysWants_40 rfl ?_
      refine mf_iald dX12_laysWants_41 (mo_a6 hM) (fun v5 => ?_)
      refine mf_icmp_ge (tgt := 119) dX12_laysWants_42 (by decide) ?_ ?_
      · refine mf_goto (tgt := 25) dX12_laysWants_119 (by decide) ?_
        refine mf_sub [0, 1, 2, 3] rfl ?_
        exact h25 _
      · refine mf_aload_n 0 dX12_laysWants_45 rfl ?_
        refine mf_getr 12 6 dX12_laysWants_46 fl_X12_33 (by decide) (by decide) rfl (mo_o hM) (mo_r6 hM) (by decide) ?_
        refine mf_bipush (v := 90) dX12_laysWants_49 (by decide) ?_
        refine mf_aload_n 0 dX12_laysWants_51 rfl ?_
        refine mf_getr 12 6 dX12_laysWants_52 fl_X12_33 (by decide) (by decide) rfl (mo_o hM) (mo_r6 hM) (by decide) ?_
        refine mf_bipush (v := 106) dX12_laysWants_55 (by decide) ?_
        refine mf_iload 4 dX12_laysWants_57 rfl ?_
        refine mf_iadd dX12_laysWants_59 ?_
        refine mf_iald dX12_laysWants_60 (mo_a6 hM) (fun v6 => ?_)
        refine mf_iadd dX12_laysWants_61 ?_
        refine mf_iald dX12_laysWants_62 (mo_a6 hM) (fun v7 => ?_)
        refine mf_istore [(5, .int v7), (0, .ref 218), (1, .int a1), (2, .int a2), (3, .int x3), (4, .int x4)] dX12_laysWants_63 (Nat.le_of_ble_eq_true rfl) rfl ?_
        refine mf_aload_n 1 dX12_laysWants_65 rfl ?_
        refine mf_iload 5 dX12_laysWants_66 rfl ?_
        refine mf_iload 0 dX12_laysWants_68 rfl ?_
        refine mf_iload_n 3 dX12_laysWants_70 rfl ?_
        refine mf_cVi (rest := []) [.int x4, .int v7, .int a2] (aX12_isFrom (d + 1) q hM x4 v7 a2) mY_X12_isFrom dX12_laysWants_71 ml_X12_413 (mo_o hM) rfl rfl (Nat.le_of_ble_eq_true rfl) rfl (fun v8 => ?_)
        refine mf_if_eq (tgt := 113) dX12_laysWants_74 (by decide) ?_ ?_
        · refine mf_iinc 5 (x4 + 1) [(4, .int (x4 + 1)), (5, .int v7), (0, .ref 218), (1, .int a1), (2, .int a2), (3, .int x3)] dX12_laysWants_113 rfl rfl (Nat.le_of_ble_eq_true rfl) rfl ?_
          refine mf_goto (tgt := 34) dX12_laysWants_116 (by decide) ?_
          refine mf_sub [2, 3, 4, 5, 0] rfl ?_
          exact h34 _ _
        · refine mf_aload_n 1 dX12_laysWants_77 rfl ?_
          refine mf_iload 5 dX12_laysWants_78 rfl ?_
          refine mf_iload_n 2 dX12_laysWants_80 rfl ?_
          refine mf_cVi (rest := []) [.int x4, .int a1] (aX12_wantsBy (d + 0) q hM x4 a1) mY_X12_wantsBy dX12_laysWants_81 ml_X12_416 (mo_o hM) rfl rfl (Nat.le_of_ble_eq_true rfl) rfl (fun v9 => ?_)
          refine mf_aload_n 1 dX12_laysWants_84 rfl ?_
          refine mf_getr 12 29 dX12_laysWants_85 fl_X12_65 (by decide) (by decide) rfl (mo_o hM) (mo_r29 hM) (by decide) ?_
          refine mf_iload 0 dX12_laysWants_88 rfl ?_
          refine mf_iald dX12_laysWants_90 (mo_a29 hM) (fun v10 => ?_)
          refine mf_icmp_lt (tgt := 97) dX12_laysWants_91 (by decide) ?_ ?_
          · refine mf_aload_n 1 dX12_laysWants_97 rfl ?_
            refine mf_getr 12 29 dX12_laysWants_98 fl_X12_65 (by decide) (by decide) rfl (mo_o hM) (mo_r29 hM) (by decide) ?_
            refine mf_iload 0 dX12_laysWants_101 rfl ?_
            refine mf_aload_n 1 dX12_laysWants_103 rfl ?_
            refine mf_iload 5 dX12_laysWants_104 rfl ?_
            refine mf_iload_n 2 dX12_laysWants_106 rfl ?_
            refine mf_cVi (rest := [.int v7, .ref 229]) [.int x4, .int a1] (aX12_wantsBy (d + 0) q hM x4 a1) mY_X12_wantsBy dX12_laysWants_107 ml_X12_416 (mo_o hM) rfl rfl (Nat.le_of_ble_eq_true rfl) rfl (fun v11 => ?_)
            refine mf_iast dX12_laysWants_110 (mo_a29 hM) ?_
            refine mf_iconst (v := 1) dX12_laysWants_111 rfl ?_
            refine mf_istore_n [(3, .int 1), (5, .int v7), (0, .ref 218), (1, .int a1), (2, .int a2), (4, .int x4)] dX12_laysWants_112 (Nat.le_of_ble_eq_true rfl) rfl ?_
            refine mf_iinc 5 (x4 + 1) [(4, .int (x4 + 1)), (3, .int 1), (5, .int v7), (0, .ref 218), (1, .int a1), (2, .int a2)] dX12_laysWants_113 rfl rfl (Nat.le_of_ble_eq_true rfl) rfl ?_
            refine mf_goto (tgt := 34) dX12_laysWants_116 (by decide) ?_
            refine mf_sub [3, 4, 5, 1, 0] rfl ?_
            exact h34 _ _
          · refine mf_goto (tgt := 113) dX12_laysWants_94 (by decide) ?_
            refine mf_iinc 5 (x4 + 1) [(4, .int (x4 + 1)), (5, .int v7), (0, .ref 218), (1, .int a1), (2, .int a2), (3, .int x3)] dX12_laysWants_113 rfl rfl (Nat.le_of_ble_eq_true rfl) rfl ?_
            refine mf_goto (tgt := 34) dX12_laysWants_116 (by decide) ?_
            refine mf_sub [2, 3, 4, 5, 0] rfl ?_
            exact h34 _ _
  · refine mf_aload_n 0 dX12_laysWants_8 rfl ?_
    refine mf_getr 12 29 dX12_laysWants_9 fl_X12_65 (by decide) (by decide) rfl (mo_o hM) (mo_r29 hM) (by decide) ?_
    refine mf_iload_n 3 dX12_laysWants_12 rfl ?_
    refine mf_ldc_w dX12_laysWants_13 cl_X12_406 ?_
    refine mf_iast dX12_laysWants_16 (mo_a29 hM) ?_
    refine mf_iinc 3 (x1 + 1) [(3, .int (x1 + 1)), (0, .ref 218), (1, .int a1), (2, .int a2)] dX12_laysWants_17 rfl rfl (Nat.le_of_ble_eq_true rfl) rfl ?_
    refine mf_goto (tgt := 2) dX12_laysWants_20 (by decide) ?_
    refine mf_sub [1, 2, 3, 0] rfl ?_
    exact h2 _
set_option maxRecDepth 100000 in
set_option maxHeartbeats 4000000 in
theorem aX12_path (d : Nat) (q : m_S) (hM : isM q) (a1 : Int32) (a2 : Int32) : AC rI yX12_path cX12_path 8 (some .int) (d + 4) [.ref 218, .int a1, .int a2] q (fX12_path a1 a2) := by
  refine ac_of (by decide +kernel) (Nat.le_of_ble_eq_true rfl) ?_
  unfold fX12_path
  show MF rI (yX12_path.cls, cX12_path, 8, (some .int), yX12_path.name, d + 4, 0, 0) 0 [(0, .ref 218), (1, .int a1), (2, .int a2)] [] q _
  refine mf_aload_n 0 dX12_path_0 rfl ?_
  refine mf_iconst (v := 0) dX12_path_1 rfl ?_
  refine mf_puti 12 0 dX12_path_2 fl_X12_1 (by decide) (by decide) rfl rfl (mo_o hM) ?_
  refine mf_aload_n 0 dX12_path_5 rfl ?_
  refine mf_iload_n 1 dX12_path_6 rfl ?_
  refine mf_cVi (rest := []) [.int a1] (aX12_isTrain (d + 1) q hM a1) mY_X12_isTrain dX12_path_7 ml_X12_335 (mo_o hM) rfl rfl (Nat.le_of_ble_eq_true rfl) rfl (fun v1 => ?_)
  refine mf_if_eq (tgt := 34) dX12_path_10 (by decide) ?_ ?_
  · refine mf_iconst (v := -1) dX12_path_34 rfl ?_
    exact mf_ireturn dX12_path_35 rfl rfl ⟨rfl, rfl⟩
  · refine mf_aload_n 0 dX12_path_13 rfl ?_
    refine mf_iload_n 2 dX12_path_14 rfl ?_
    refine mf_cVi (rest := []) [.int a2] (aX12_isSection (d + 1) q hM a2) mY_X12_isSection dX12_path_15 ml_X12_311 (mo_o hM) rfl rfl (Nat.le_of_ble_eq_true rfl) rfl (fun v2 => ?_)
    refine mf_if_eq (tgt := 34) dX12_path_18 (by decide) ?_ ?_
    · refine mf_iconst (v := -1) dX12_path_34 rfl ?_
      exact mf_ireturn dX12_path_35 rfl rfl ⟨rfl, rfl⟩
    · refine mf_aload_n 0 dX12_path_21 rfl ?_
      refine mf_getr 12 6 dX12_path_22 fl_X12_33 (by decide) (by decide) rfl (mo_o hM) (mo_r6 hM) (by decide) ?_
      refine mf_sipush (v := 271) dX12_path_25 (by decide) ?_
      refine mf_iload_n 1 dX12_path_28 rfl ?_
      refine mf_iadd dX12_path_29 ?_
      refine mf_iald dX12_path_30 (mo_a6 hM) (fun v3 => ?_)
      refine mf_if_ne (tgt := 36) dX12_path_31 (by decide) ?_ ?_
      · refine mf_aload_n 0 dX12_path_36 rfl ?_
        refine mf_getr 12 6 dX12_path_37 fl_X12_33 (by decide) (by decide) rfl (mo_o hM) (mo_r6 hM) (by decide) ?_
        refine mf_sipush (v := 271) dX12_path_40 (by decide) ?_
        refine mf_iload_n 1 dX12_path_43 rfl ?_
        refine mf_iadd dX12_path_44 ?_
        refine mf_iald dX12_path_45 (mo_a6 hM) (fun v4 => ?_)
        refine mf_iconst (v := 1) dX12_path_46 rfl ?_
        refine mf_isub dX12_path_47 ?_
        refine mf_istore_n [(3, .int (v4 - 1)), (0, .ref 218), (1, .int a1), (2, .int a2)] dX12_path_48 (Nat.le_of_ble_eq_true rfl) rfl ?_
        refine mf_aload_n 1 dX12_path_49 rfl ?_
        refine mf_getr 12 6 dX12_path_50 fl_X12_33 (by decide) (by decide) rfl (mo_o hM) (mo_r6 hM) (by decide) ?_
        refine mf_sipush (v := 221) dX12_path_53 (by decide) ?_
        refine mf_iload_n 2 dX12_path_56 rfl ?_
        refine mf_iadd dX12_path_57 ?_
        refine mf_iald dX12_path_58 (mo_a6 hM) (fun v5 => ?_)
        refine mf_istore [(4, .int v5), (3, .int (v4 - 1)), (0, .ref 218), (1, .int a1), (2, .int a2)] dX12_path_59 (Nat.le_of_ble_eq_true rfl) rfl ?_
        refine mf_aload_n 2 dX12_path_61 rfl ?_
        refine mf_iload_n 4 dX12_path_62 rfl ?_
        refine mf_iload 0 dX12_path_63 rfl ?_
        refine mf_cVv (rest := []) [.int a2, .int v5] (aX12_laysWants (d + 0) q hM a2 v5) mY_X12_laysWants dX12_path_65 ml_X12_419 (mo_o hM) rfl rfl (Nat.le_of_ble_eq_true rfl) rfl (fun _ => ?_)
        refine mf_iload_n 1 dX12_path_68 rfl ?_
        refine mf_iload_n 4 dX12_path_69 rfl ?_
        refine mf_jo1 (pj := 83) (lvj := fun w6 => [(0, .ref 218), (2, .int a2), (3, .int (v4 - 1)), (4, .int v5)]) (stj := fun w6 => [.int w6]) (fun w6 => ?_) (fun J83 hJ83 => ?_)
        · show MF rI (yX12_path.cls, cX12_path, 8, (some .int), yX12_path.name, d + 4, 0, 0) 83 [(0, .ref 218), (2, .int a2), (3, .int (v4 - 1)), (4, .int v5)] [.int w6] q _
          refine mf_istore [(5, .int w6), (0, .ref 218), (2, .int a2), (3, .int (v4 - 1)), (4, .int v5)] dX12_path_83 (Nat.le_of_ble_eq_true rfl) rfl ?_
          refine mf_iload 0 dX12_path_85 rfl ?_
          refine mf_ldc_w dX12_path_87 cl_X12_406 ?_
          refine mf_icmp_lt (tgt := 95) dX12_path_90 (by decide) ?_ ?_
          · refine mf_aload_n 1 dX12_path_95 rfl ?_
            refine mf_iload 0 dX12_path_96 rfl ?_
            refine mf_puti 12 31 dX12_path_98 fl_X12_71 (by decide) (by decide) rfl rfl (mo_o hM) ?_
            refine mf_iconst (v := 0) dX12_path_101 rfl ?_
            refine mf_istore [(6, .int 0), (5, .int w6), (0, .ref 218), (2, .int a2), (3, .int (v4 - 1)), (4, .int v5)] dX12_path_102 (Nat.le_of_ble_eq_true rfl) rfl ?_
            refine mf_sub [2, 3, 4, 5, 1, 0] rfl ?_
            refine mf_lz2 (lv := fun x7 x8 => [(0, .ref 218), (2, .int a2), (3, .int x7), (4, .int v5), (5, .int w6), (6, .int x8)]) (fun L104 h104 x7 x8 => ?_) _ _ _
            show MF rI (yX12_path.cls, cX12_path, 8, (some .int), yX12_path.name, d + 4, 0, 0) 104 [(0, .ref 218), (2, .int a2), (3, .int x7), (4, .int v5), (5, .int w6), (6, .int x8)] [] q _
            refine mf_iload 5 dX12_path_104 rfl ?_
            refine mf_iload 4 dX12_path_106 rfl ?_
            refine mf_icmp_ge (tgt := 169) dX12_path_108 (by decide) ?_ ?_
            · refine mf_iload 4 dX12_path_169 rfl ?_
              exact mf_ireturn dX12_path_171 rfl rfl ⟨rfl, rfl⟩
            · refine mf_iconst (v := 0) dX12_path_111 rfl ?_
              refine mf_istore [(7, .int 0), (0, .ref 218), (2, .int a2), (3, .int x7), (4, .int v5), (5, .int w6), (6, .int x8)] dX12_path_112 (Nat.le_of_ble_eq_true rfl) rfl ?_
              refine mf_sub [1, 2, 3, 4, 5, 6, 0] rfl ?_
              refine mf_lz1 (lv := fun x9 => [(0, .ref 218), (2, .int a2), (3, .int x7), (4, .int v5), (5, .int w6), (6, .int x8), (7, .int x9)]) (fun L114 h114 x9 => ?_) _ _
              show MF rI (yX12_path.cls, cX12_path, 8, (some .int), yX12_path.name, d + 4, 0, 0) 114 [(0, .ref 218), (2, .int a2), (3, .int x7), (4, .int v5), (5, .int w6), (6, .int x8), (7, .int x9)] [] q _
              refine mf_aload_n 0 dX12_path_114 rfl ?_
              refine mf_iload 6 dX12_path_115 rfl ?_
              refine mf_iload_n 2 dX12_path_117 rfl ?_
              refine mf_iload 3 dX12_path_118 rfl ?_
              refine mf_cVi (rest := []) [.int x9, .int x7, .int v5] (aX12_isFrom (d + 2) q hM x9 x7 v5) mY_X12_isFrom dX12_path_120 ml_X12_413 (mo_o hM) rfl rfl (Nat.le_of_ble_eq_true rfl) rfl (fun v10 => ?_)
              refine mf_if_eq (tgt := 141) dX12_path_123 (by decide) ?_ ?_
              · refine mf_iinc 6 (x9 + 1) [(7, .int (x9 + 1)), (0, .ref 218), (2, .int a2), (3, .int x7), (4, .int v5), (5, .int w6), (6, .int x8)] dX12_path_141 rfl rfl (Nat.le_of_ble_eq_true rfl) rfl ?_
                refine mf_goto (tgt := 114) dX12_path_144 (by decide) ?_
                refine mf_sub [1, 2, 3, 4, 5, 6, 0] rfl ?_
                exact h114 _
              · refine mf_aload_n 0 dX12_path_126 rfl ?_
                refine mf_iload 6 dX12_path_127 rfl ?_
                refine mf_iload_n 1 dX12_path_129 rfl ?_
                refine mf_cVi (rest := []) [.int x9, .int a2] (aX12_wantsBy (d + 1) q hM x9 a2) mY_X12_wantsBy dX12_path_130 ml_X12_416 (mo_o hM) rfl rfl (Nat.le_of_ble_eq_true rfl) rfl (fun v11 => ?_)
                refine mf_iload 4 dX12_path_133 rfl ?_
                refine mf_iload 5 dX12_path_135 rfl ?_
                refine mf_isub dX12_path_137 ?_
                refine mf_icmp_eq (tgt := 147) dX12_path_138 (by decide) ?_ ?_
                · refine mf_aload_n 0 dX12_path_147 rfl ?_
                  refine mf_getr 12 30 dX12_path_148 fl_X12_68 (by decide) (by decide) rfl (mo_o hM) (mo_r30 hM) (by decide) ?_
                  refine mf_iload 5 dX12_path_151 rfl ?_
                  refine mf_iload 6 dX12_path_153 rfl ?_
                  refine mf_iast dX12_path_155 (mo_a30 hM) ?_
                  refine mf_aload_n 0 dX12_path_156 rfl ?_
                  refine mf_iload 6 dX12_path_157 rfl ?_
                  refine mf_cVi (rest := []) [.int x9] (aX12_endOf (d + 2) q hM x9) mY_X12_endOf dX12_path_159 ml_X12_410 (mo_o hM) rfl rfl (Nat.le_of_ble_eq_true rfl) rfl (fun v12 => ?_)
                  refine mf_istore_n [(3, .int v12), (0, .ref 218), (2, .int a2), (4, .int v5), (5, .int w6), (6, .int x8), (7, .int x9)] dX12_path_162 (Nat.le_of_ble_eq_true rfl) rfl ?_
                  refine mf_iinc 5 (x8 + 1) [(6, .int (x8 + 1)), (3, .int v12), (0, .ref 218), (2, .int a2), (4, .int v5), (5, .int w6), (7, .int x9)] dX12_path_163 rfl rfl (Nat.le_of_ble_eq_true rfl) rfl ?_
                  refine mf_goto (tgt := 104) dX12_path_166 (by decide) ?_
                  refine mf_sub [2, 3, 1, 4, 5, 0] rfl ?_
                  exact h104 _ _
                · refine mf_iinc 6 (x9 + 1) [(7, .int (x9 + 1)), (0, .ref 218), (2, .int a2), (3, .int x7), (4, .int v5), (5, .int w6), (6, .int x8)] dX12_path_141 rfl rfl (Nat.le_of_ble_eq_true rfl) rfl ?_
                  refine mf_goto (tgt := 114) dX12_path_144 (by decide) ?_
                  refine mf_sub [1, 2, 3, 4, 5, 6, 0] rfl ?_
                  exact h114 _
          · refine mf_iconst (v := -1) dX12_path_93 rfl ?_
            exact mf_ireturn dX12_path_94 rfl rfl ⟨rfl, rfl⟩
        refine mf_icmp_ne (tgt := 77) dX12_path_70 (by decide) ?_ ?_
        · refine mf_aload_n 2 dX12_path_77 rfl ?_
          refine mf_getr 12 29 dX12_path_78 fl_X12_65 (by decide) (by decide) rfl (mo_o hM) (mo_r29 hM) (by decide) ?_
          refine mf_iload_n 1 dX12_path_81 rfl ?_
          refine mf_iald dX12_path_82 (mo_a29 hM) (fun v13 => ?_)
          refine mf_sub [2, 4, 1, 0] rfl ?_
          exact hJ83 _
        · refine mf_iconst (v := 0) dX12_path_73 rfl ?_
          refine mf_goto (tgt := 83) dX12_path_74 (by decide) ?_
          refine mf_sub [2, 4, 1, 0] rfl ?_
          exact hJ83 _
      · refine mf_iconst (v := -1) dX12_path_34 rfl ?_
        exact mf_ireturn dX12_path_35 rfl rfl ⟨rfl, rfl⟩
set_option maxRecDepth 100000 in
set_option maxHeartbeats 4000000 in
theorem aX12_pathAt (d : Nat) (q : m_S) (hM : isM q) (a1 : Int32) : AC rI yX12_pathAt cX12_pathAt 2 (some .int) (d + 2) [.ref 218, .int a1] q (fX12_pathAt a1) := by
  refine ac_of (by decide +kernel) (Nat.le_of_ble_eq_true rfl) ?_
  unfold fX12_pathAt
  show MF rI (yX12_pathAt.cls, cX12_pathAt, 2, (some .int), yX12_pathAt.name, d + 2, 0, 0) 0 [(0, .ref 218), (1, .int a1)] [] q _
  refine mf_aload_n 0 dX12_pathAt_0 rfl ?_
  refine mf_iconst (v := 0) dX12_pathAt_1 rfl ?_
  refine mf_puti 12 0 dX12_pathAt_2 fl_X12_1 (by decide) (by decide) rfl rfl (mo_o hM) ?_
  refine mf_iload_n 1 dX12_pathAt_5 rfl ?_
  refine mf_iconst (v := 0) dX12_pathAt_6 rfl ?_
  refine mf_aload_n 0 dX12_pathAt_7 rfl ?_
  refine mf_geti 12 31 dX12_pathAt_8 fl_X12_71 (by decide) (by decide) rfl (mo_o hM) (fun v1 => ?_)
  refine mf_iconst (v := 1) dX12_pathAt_11 rfl ?_
  refine mf_isub dX12_pathAt_12 ?_
  refine mf_cSi (rest := []) [.int a1, .int 0, .int (v1 - 1)] (aX12_isIn (d + 0) q a1 0 (v1 - 1)) mY_X12_isIn dX12_pathAt_13 ml_X12_211 rfl rfl (Nat.le_of_ble_eq_true rfl) rfl (fun v2 => ?_)
  refine mf_if_eq (tgt := 28) dX12_pathAt_16 (by decide) ?_ ?_
  · refine mf_iconst (v := -1) dX12_pathAt_28 rfl ?_
    exact mf_ireturn dX12_pathAt_29 rfl rfl ⟨rfl, rfl⟩
  · refine mf_aload_n 0 dX12_pathAt_19 rfl ?_
    refine mf_getr 12 30 dX12_pathAt_20 fl_X12_68 (by decide) (by decide) rfl (mo_o hM) (mo_r30 hM) (by decide) ?_
    refine mf_iload_n 1 dX12_pathAt_23 rfl ?_
    refine mf_iald dX12_pathAt_24 (mo_a30 hM) (fun v3 => ?_)
    refine mf_goto (tgt := 29) dX12_pathAt_25 (by decide) ?_
    exact mf_ireturn dX12_pathAt_29 rfl rfl ⟨rfl, rfl⟩
set_option maxRecDepth 100000 in
set_option maxHeartbeats 4000000 in
theorem aX12_comes (d : Nat) (q : m_S) (hM : isM q) (a1 : Int32) (a2 : Int32) : AC rI yX12_comes cX12_comes 5 (some .int) (d + 5) [.ref 218, .int a1, .int a2] q (fX12_comes a1 a2) := by
  refine ac_of (by decide +kernel) (Nat.le_of_ble_eq_true rfl) ?_
  unfold fX12_comes
  show MF rI (yX12_comes.cls, cX12_comes, 5, (some .int), yX12_comes.name, d + 5, 0, 0) 0 [(0, .ref 218), (1, .int a1), (2, .int a2)] [] q _
  refine mf_aload_n 0 dX12_comes_0 rfl ?_
  refine mf_iconst (v := 0) dX12_comes_1 rfl ?_
  refine mf_puti 12 0 dX12_comes_2 fl_X12_1 (by decide) (by decide) rfl rfl (mo_o hM) ?_
  refine mf_aload_n 0 dX12_comes_5 rfl ?_
  refine mf_iload_n 1 dX12_comes_6 rfl ?_
  refine mf_cVi (rest := []) [.int a1] (aX12_isTrain (d + 2) q hM a1) mY_X12_isTrain dX12_comes_7 ml_X12_335 (mo_o hM) rfl rfl (Nat.le_of_ble_eq_true rfl) rfl (fun v1 => ?_)
  refine mf_if_eq (tgt := 21) dX12_comes_10 (by decide) ?_ ?_
  · refine mf_iconst (v := -1) dX12_comes_21 rfl ?_
    exact mf_ireturn dX12_comes_22 rfl rfl ⟨rfl, rfl⟩
  · refine mf_aload_n 0 dX12_comes_13 rfl ?_
    refine mf_iload_n 2 dX12_comes_14 rfl ?_
    refine mf_cVi (rest := []) [.int a2] (aX12_isSection (d + 2) q hM a2) mY_X12_isSection dX12_comes_15 ml_X12_311 (mo_o hM) rfl rfl (Nat.le_of_ble_eq_true rfl) rfl (fun v2 => ?_)
    refine mf_if_ne (tgt := 23) dX12_comes_18 (by decide) ?_ ?_
    · refine mf_aload_n 0 dX12_comes_23 rfl ?_
      refine mf_cVv (rest := []) [] (aX12_tries (d + 3) q hM) mY_X12_tries dX12_comes_24 ml_X12_422 (mo_o hM) rfl rfl (Nat.le_of_ble_eq_true rfl) rfl (fun _ => ?_)
      refine mf_iconst (v := -1) dX12_comes_27 rfl ?_
      refine mf_istore_n [(3, .int (-1)), (0, .ref 218), (1, .int a1), (2, .int a2)] dX12_comes_28 (Nat.le_of_ble_eq_true rfl) rfl ?_
      refine mf_iconst (v := 0) dX12_comes_29 rfl ?_
      refine mf_istore [(4, .int 0), (3, .int (-1)), (0, .ref 218), (1, .int a1), (2, .int a2)] dX12_comes_30 (Nat.le_of_ble_eq_true rfl) rfl ?_
      refine mf_sub [2, 3, 4, 1, 0] rfl ?_
      refine mf_lz2 (lv := fun x3 x4 => [(0, .ref 218), (1, .int a1), (2, .int a2), (3, .int x3), (4, .int x4)]) (fun L32 h32 x3 x4 => ?_) _ _ _
      show MF rI (yX12_comes.cls, cX12_comes, 5, (some .int), yX12_comes.name, d + 5, 0, 0) 32 [(0, .ref 218), (1, .int a1), (2, .int a2), (3, .int x3), (4, .int x4)] [] q _
      refine mf_iload 4 dX12_comes_32 rfl ?_
      refine mf_sipush (v := 300) dX12_comes_34 (by decide) ?_
      refine mf_icmp_gt (tgt := 74) dX12_comes_37 (by decide) ?_ ?_
      · refine mf_aload_n 0 dX12_comes_74 rfl ?_
        refine mf_cVv (rest := []) [] (aX12_brings (d + 3) q hM) mY_X12_brings dX12_comes_75 ml_X12_425 (mo_o hM) rfl rfl (Nat.le_of_ble_eq_true rfl) rfl (fun _ => ?_)
        refine mf_iload_n 3 dX12_comes_78 rfl ?_
        exact mf_ireturn dX12_comes_79 rfl rfl ⟨rfl, rfl⟩
      · refine mf_iload_n 3 dX12_comes_40 rfl ?_
        refine mf_if_ge (tgt := 74) dX12_comes_41 (by decide) ?_ ?_
        · refine mf_aload_n 0 dX12_comes_74 rfl ?_
          refine mf_cVv (rest := []) [] (aX12_brings (d + 3) q hM) mY_X12_brings dX12_comes_75 ml_X12_425 (mo_o hM) rfl rfl (Nat.le_of_ble_eq_true rfl) rfl (fun _ => ?_)
          refine mf_iload_n 3 dX12_comes_78 rfl ?_
          exact mf_ireturn dX12_comes_79 rfl rfl ⟨rfl, rfl⟩
        · refine mf_aload_n 0 dX12_comes_44 rfl ?_
          refine mf_getr 12 6 dX12_comes_45 fl_X12_33 (by decide) (by decide) rfl (mo_o hM) (mo_r6 hM) (by decide) ?_
          refine mf_sipush (v := 271) dX12_comes_48 (by decide) ?_
          refine mf_iload_n 1 dX12_comes_51 rfl ?_
          refine mf_iadd dX12_comes_52 ?_
          refine mf_iald dX12_comes_53 (mo_a6 hM) (fun v5 => ?_)
          refine mf_iload_n 2 dX12_comes_54 rfl ?_
          refine mf_iconst (v := 1) dX12_comes_55 rfl ?_
          refine mf_iadd dX12_comes_56 ?_
          refine mf_icmp_ne (tgt := 63) dX12_comes_57 (by decide) ?_ ?_
          · refine mf_aload_n 0 dX12_comes_63 rfl ?_
            refine mf_cVi (rest := []) [] (aX12_tick (d + 0) q hM) mY_X12_tick dX12_comes_64 ml_X12_373 (mo_o hM) rfl rfl (Nat.le_of_ble_eq_true rfl) rfl (fun v6 => ?_)
            refine mf_pop dX12_comes_67 rfl ?_
            refine mf_iinc 4 (x4 + 1) [(4, .int (x4 + 1)), (0, .ref 218), (1, .int a1), (2, .int a2), (3, .int x3)] dX12_comes_68 rfl rfl (Nat.le_of_ble_eq_true rfl) rfl ?_
            refine mf_goto (tgt := 32) dX12_comes_71 (by decide) ?_
            refine mf_sub [1, 2, 3, 4, 0] rfl ?_
            exact h32 _ _
          · refine mf_iload 4 dX12_comes_60 rfl ?_
            refine mf_istore_n [(3, .int x4), (0, .ref 218), (1, .int a1), (2, .int a2), (4, .int x4)] dX12_comes_62 (Nat.le_of_ble_eq_true rfl) rfl ?_
            refine mf_aload_n 1 dX12_comes_63 rfl ?_
            refine mf_cVi (rest := []) [] (aX12_tick (d + 0) q hM) mY_X12_tick dX12_comes_64 ml_X12_373 (mo_o hM) rfl rfl (Nat.le_of_ble_eq_true rfl) rfl (fun v7 => ?_)
            refine mf_pop dX12_comes_67 rfl ?_
            refine mf_iinc 4 (x4 + 1) [(4, .int (x4 + 1)), (3, .int x4), (0, .ref 218), (1, .int a1), (2, .int a2)] dX12_comes_68 rfl rfl (Nat.le_of_ble_eq_true rfl) rfl ?_
            refine mf_goto (tgt := 32) dX12_comes_71 (by decide) ?_
            refine mf_sub [2, 3, 4, 1, 0] rfl ?_
            exact h32 _ _
    · refine mf_iconst (v := -1) dX12_comes_21 rfl ?_
      exact mf_ireturn dX12_comes_22 rfl rfl ⟨rfl, rfl⟩
set_option maxRecDepth 100000 in
set_option maxHeartbeats 4000000 in
theorem aX12_meet (d : Nat) (q : m_S) (hM : isM q)  : AC rI yX12_meet cX12_meet 4 (some .int) (d + 5) [.ref 218] q (fX12_meet ) := by
  refine ac_of (by decide +kernel) (Nat.le_of_ble_eq_true rfl) ?_
  unfold fX12_meet
  show MF rI (yX12_meet.cls, cX12_meet, 4, (some .int), yX12_meet.name, d + 5, 0, 0) 0 [(0, .ref 218)] [] q _
  refine mf_aload_n 0 dX12_meet_0 rfl ?_
  refine mf_iconst (v := 0) dX12_meet_1 rfl ?_
  refine mf_puti 12 0 dX12_meet_2 fl_X12_1 (by decide) (by decide) rfl rfl (mo_o hM) ?_
  refine mf_aload_n 0 dX12_meet_5 rfl ?_
  refine mf_cVv (rest := []) [] (aX12_tries (d + 3) q hM) mY_X12_tries dX12_meet_6 ml_X12_422 (mo_o hM) rfl rfl (Nat.le_of_ble_eq_true rfl) rfl (fun _ => ?_)
  refine mf_aload_n 0 dX12_meet_9 rfl ?_
  refine mf_getr 12 6 dX12_meet_10 fl_X12_33 (by decide) (by decide) rfl (mo_o hM) (mo_r6 hM) (by decide) ?_
  refine mf_sipush (v := 281) dX12_meet_13 (by decide) ?_
  refine mf_iald dX12_meet_16 (mo_a6 hM) (fun v1 => ?_)
  refine mf_istore_n [(1, .int v1), (0, .ref 218)] dX12_meet_17 (Nat.le_of_ble_eq_true rfl) rfl ?_
  refine mf_iconst (v := -1) dX12_meet_18 rfl ?_
  refine mf_istore_n [(2, .int (-1)), (1, .int v1), (0, .ref 218)] dX12_meet_19 (Nat.le_of_ble_eq_true rfl) rfl ?_
  refine mf_iconst (v := 1) dX12_meet_20 rfl ?_
  refine mf_istore_n [(3, .int 1), (2, .int (-1)), (1, .int v1), (0, .ref 218)] dX12_meet_21 (Nat.le_of_ble_eq_true rfl) rfl ?_
  refine mf_sub [3, 2, 1, 0] rfl ?_
  refine mf_lz2 (lv := fun x2 x3 => [(0, .ref 218), (1, .int v1), (2, .int x2), (3, .int x3)]) (fun L22 h22 x2 x3 => ?_) _ _ _
  show MF rI (yX12_meet.cls, cX12_meet, 4, (some .int), yX12_meet.name, d + 5, 0, 0) 22 [(0, .ref 218), (1, .int v1), (2, .int x2), (3, .int x3)] [] q _
  refine mf_iload_n 3 dX12_meet_22 rfl ?_
  refine mf_sipush (v := 300) dX12_meet_23 (by decide) ?_
  refine mf_icmp_gt (tgt := 61) dX12_meet_26 (by decide) ?_ ?_
  · refine mf_aload_n 0 dX12_meet_61 rfl ?_
    refine mf_cVv (rest := []) [] (aX12_brings (d + 3) q hM) mY_X12_brings dX12_meet_62 ml_X12_425 (mo_o hM) rfl rfl (Nat.le_of_ble_eq_true rfl) rfl (fun _ => ?_)
    refine mf_iload_n 2 dX12_meet_65 rfl ?_
    exact mf_ireturn dX12_meet_66 rfl rfl ⟨rfl, rfl⟩
  · refine mf_iload_n 2 dX12_meet_29 rfl ?_
    refine mf_if_ge (tgt := 61) dX12_meet_30 (by decide) ?_ ?_
    · refine mf_aload_n 0 dX12_meet_61 rfl ?_
      refine mf_cVv (rest := []) [] (aX12_brings (d + 3) q hM) mY_X12_brings dX12_meet_62 ml_X12_425 (mo_o hM) rfl rfl (Nat.le_of_ble_eq_true rfl) rfl (fun _ => ?_)
      refine mf_iload_n 2 dX12_meet_65 rfl ?_
      exact mf_ireturn dX12_meet_66 rfl rfl ⟨rfl, rfl⟩
    · refine mf_aload_n 0 dX12_meet_33 rfl ?_
      refine mf_cVi (rest := []) [] (aX12_tick (d + 0) q hM) mY_X12_tick dX12_meet_34 ml_X12_373 (mo_o hM) rfl rfl (Nat.le_of_ble_eq_true rfl) rfl (fun v4 => ?_)
      refine mf_pop dX12_meet_37 rfl ?_
      refine mf_aload_n 0 dX12_meet_38 rfl ?_
      refine mf_getr 12 6 dX12_meet_39 fl_X12_33 (by decide) (by decide) rfl (mo_o hM) (mo_r6 hM) (by decide) ?_
      refine mf_sipush (v := 281) dX12_meet_42 (by decide) ?_
      refine mf_iald dX12_meet_45 (mo_a6 hM) (fun v5 => ?_)
      refine mf_iload_n 1 dX12_meet_46 rfl ?_
      refine mf_iconst (v := -1) dX12_meet_47 rfl ?_
      refine mf_ixor dX12_meet_48 ?_
      refine mf_iand dX12_meet_49 ?_
      refine mf_if_eq (tgt := 55) dX12_meet_50 (by decide) ?_ ?_
      · refine mf_iinc 3 (x3 + 1) [(3, .int (x3 + 1)), (0, .ref 218), (1, .int v1), (2, .int x2)] dX12_meet_55 rfl rfl (Nat.le_of_ble_eq_true rfl) rfl ?_
        refine mf_goto (tgt := 22) dX12_meet_58 (by decide) ?_
        refine mf_sub [1, 2, 3, 0] rfl ?_
        exact h22 _ _
      · refine mf_iload_n 3 dX12_meet_53 rfl ?_
        refine mf_istore_n [(2, .int x3), (0, .ref 218), (1, .int v1), (3, .int x3)] dX12_meet_54 (Nat.le_of_ble_eq_true rfl) rfl ?_
        refine mf_iinc 3 (x3 + 1) [(3, .int (x3 + 1)), (2, .int x3), (0, .ref 218), (1, .int v1)] dX12_meet_55 rfl rfl (Nat.le_of_ble_eq_true rfl) rfl ?_
        refine mf_goto (tgt := 22) dX12_meet_58 (by decide) ?_
        refine mf_sub [2, 3, 1, 0] rfl ?_
        exact h22 _ _
set_option maxRecDepth 100000 in
set_option maxHeartbeats 4000000 in
theorem aX12_showsAt (d : Nat) (q : m_S) (hM : isM q) (a1 : Int32) (a2 : Int32) : AC rI yX12_showsAt cX12_showsAt 3 (some .int) (d + 3) [.ref 218, .int a1, .int a2] q (fX12_showsAt a1 a2) := by
  refine ac_of (by decide +kernel) (Nat.le_of_ble_eq_true rfl) ?_
  unfold fX12_showsAt
  show MF rI (yX12_showsAt.cls, cX12_showsAt, 3, (some .int), yX12_showsAt.name, d + 3, 0, 0) 0 [(0, .ref 218), (1, .int a1), (2, .int a2)] [] q _
  refine mf_aload_n 0 dX12_showsAt_0 rfl ?_
  refine mf_iload_n 1 dX12_showsAt_1 rfl ?_
  refine mf_iload_n 2 dX12_showsAt_2 rfl ?_
  refine mf_iconst (v := 2) dX12_showsAt_3 rfl ?_
  refine mf_idivC dX12_showsAt_4 (by decide) ?_
  refine mf_iload_n 1 dX12_showsAt_5 rfl ?_
  refine mf_icmp_ne (tgt := 17) dX12_showsAt_6 (by decide) ?_ ?_
  · refine mf_iconst (v := 0) dX12_showsAt_17 rfl ?_
    refine mf_cVi (rest := []) [.int a1, .int 0] (aX12_showsBy (d + 0) q hM a1 0) mY_X12_showsBy dX12_showsAt_18 ml_X12_301 (mo_o hM) rfl rfl (Nat.le_of_ble_eq_true rfl) rfl (fun v1 => ?_)
    refine mf_if_eq (tgt := 28) dX12_showsAt_21 (by decide) ?_ ?_
    · refine mf_iconst (v := 0) dX12_showsAt_28 rfl ?_
      exact mf_ireturn dX12_showsAt_29 rfl rfl ⟨rfl, rfl⟩
    · refine mf_iconst (v := 1) dX12_showsAt_24 rfl ?_
      refine mf_goto (tgt := 29) dX12_showsAt_25 (by decide) ?_
      exact mf_ireturn dX12_showsAt_29 rfl rfl ⟨rfl, rfl⟩
  · refine mf_iconst (v := 1) dX12_showsAt_9 rfl ?_
    refine mf_iload_n 2 dX12_showsAt_10 rfl ?_
    refine mf_iconst (v := 2) dX12_showsAt_11 rfl ?_
    refine mf_iremC dX12_showsAt_12 (by decide) ?_
    refine mf_iadd dX12_showsAt_13 ?_
    refine mf_goto (tgt := 18) dX12_showsAt_14 (by decide) ?_
    refine mf_cVi (rest := []) [.int a1, .int (1 + (a2 - a2 / 2 * 2))] (aX12_showsBy (d + 0) q hM a1 (1 + (a2 - a2 / 2 * 2))) mY_X12_showsBy dX12_showsAt_18 ml_X12_301 (mo_o hM) rfl rfl (Nat.le_of_ble_eq_true rfl) rfl (fun v2 => ?_)
    refine mf_if_eq (tgt := 28) dX12_showsAt_21 (by decide) ?_ ?_
    · refine mf_iconst (v := 0) dX12_showsAt_28 rfl ?_
      exact mf_ireturn dX12_showsAt_29 rfl rfl ⟨rfl, rfl⟩
    · refine mf_iconst (v := 1) dX12_showsAt_24 rfl ?_
      refine mf_goto (tgt := 29) dX12_showsAt_25 (by decide) ?_
      exact mf_ireturn dX12_showsAt_29 rfl rfl ⟨rfl, rfl⟩
set_option maxRecDepth 100000 in
set_option maxHeartbeats 4000000 in
theorem aX12_isFit (d : Nat) (q : m_S) (hM : isM q) (a1 : Int32) : AC rI yX12_isFit cX12_isFit 4 (some .boolean) (d + 4) [.ref 218, .int a1] q (fX12_isFit a1) := by
  refine ac_of (by decide +kernel) (Nat.le_of_ble_eq_true rfl) ?_
  unfold fX12_isFit
  show MF rI (yX12_isFit.cls, cX12_isFit, 4, (some .boolean), yX12_isFit.name, d + 4, 0, 0) 0 [(0, .ref 218), (1, .int a1)] [] q _
  refine mf_iconst (v := 1) dX12_isFit_0 rfl ?_
  refine mf_istore_n [(2, .int 1), (0, .ref 218), (1, .int a1)] dX12_isFit_1 (Nat.le_of_ble_eq_true rfl) rfl ?_
  refine mf_iconst (v := 0) dX12_isFit_2 rfl ?_
  refine mf_istore_n [(3, .int 0), (2, .int 1), (0, .ref 218), (1, .int a1)] dX12_isFit_3 (Nat.le_of_ble_eq_true rfl) rfl ?_
  refine mf_sub [2, 3, 1, 0] rfl ?_
  refine mf_lz2 (lv := fun x1 x2 => [(0, .ref 218), (1, .int a1), (2, .int x1), (3, .int x2)]) (fun L4 h4 x1 x2 => ?_) _ _ _
  show MF rI (yX12_isFit.cls, cX12_isFit, 4, (some .boolean), yX12_isFit.name, d + 4, 0, 0) 4 [(0, .ref 218), (1, .int a1), (2, .int x1), (3, .int x2)] [] q _
  refine mf_iload_n 3 dX12_isFit_4 rfl ?_
  refine mf_aload_n 0 dX12_isFit_5 rfl ?_
  refine mf_geti 12 3 dX12_isFit_6 fl_X12_18 (by decide) (by decide) rfl (mo_o hM) (fun v3 => ?_)
  refine mf_icmp_ge (tgt := 48) dX12_isFit_9 (by decide) ?_ ?_
  · refine mf_iload_n 2 dX12_isFit_48 rfl ?_
    exact mf_zreturn dX12_isFit_49 rfl ⟨rfl, rfl⟩
  · refine mf_iload_n 2 dX12_isFit_12 rfl ?_
    refine mf_if_eq (tgt := 40) dX12_isFit_13 (by decide) ?_ ?_
    · refine mf_iconst (v := 0) dX12_isFit_40 rfl ?_
      refine mf_istore_n [(2, .int 0), (0, .ref 218), (1, .int a1), (3, .int x2)] dX12_isFit_41 (Nat.le_of_ble_eq_true rfl) rfl ?_
      refine mf_iinc 3 (x2 + 2) [(3, .int (x2 + 2)), (2, .int 0), (0, .ref 218), (1, .int a1)] dX12_isFit_42 rfl rfl (Nat.le_of_ble_eq_true rfl) rfl ?_
      refine mf_goto (tgt := 4) dX12_isFit_45 (by decide) ?_
      refine mf_sub [2, 3, 1, 0] rfl ?_
      exact h4 _ _
    · refine mf_aload_n 0 dX12_isFit_16 rfl ?_
      refine mf_aload_n 0 dX12_isFit_17 rfl ?_
      refine mf_iload_n 3 dX12_isFit_18 rfl ?_
      refine mf_cVi (rest := [.ref 218]) [.int x2] (aX12_octet (d + 2) q hM x2) mY_X12_octet dX12_isFit_19 ml_X12_428 (mo_o hM) rfl rfl (Nat.le_of_ble_eq_true rfl) rfl (fun v4 => ?_)
      refine mf_iload_n 1 dX12_isFit_22 rfl ?_
      refine mf_cVi (rest := []) [.int v4, .int a1] (aX12_showsAt (d + 0) q hM v4 a1) mY_X12_showsAt dX12_isFit_23 ml_X12_431 (mo_o hM) rfl rfl (Nat.le_of_ble_eq_true rfl) rfl (fun v5 => ?_)
      refine mf_aload_n 0 dX12_isFit_26 rfl ?_
      refine mf_iload_n 3 dX12_isFit_27 rfl ?_
      refine mf_iconst (v := 1) dX12_isFit_28 rfl ?_
      refine mf_iadd dX12_isFit_29 ?_
      refine mf_cVi (rest := [.int v5]) [.int (x2 + 1)] (aX12_octet (d + 2) q hM (x2 + 1)) mY_X12_octet dX12_isFit_30 ml_X12_428 (mo_o hM) rfl rfl (Nat.le_of_ble_eq_true rfl) rfl (fun v6 => ?_)
      refine mf_icmp_ne (tgt := 40) dX12_isFit_33 (by decide) ?_ ?_
      · refine mf_iconst (v := 0) dX12_isFit_40 rfl ?_
        refine mf_istore_n [(2, .int 0), (0, .ref 218), (1, .int a1), (3, .int x2)] dX12_isFit_41 (Nat.le_of_ble_eq_true rfl) rfl ?_
        refine mf_iinc 3 (x2 + 2) [(3, .int (x2 + 2)), (2, .int 0), (0, .ref 218), (1, .int a1)] dX12_isFit_42 rfl rfl (Nat.le_of_ble_eq_true rfl) rfl ?_
        refine mf_goto (tgt := 4) dX12_isFit_45 (by decide) ?_
        refine mf_sub [2, 3, 1, 0] rfl ?_
        exact h4 _ _
      · refine mf_iconst (v := 1) dX12_isFit_36 rfl ?_
        refine mf_goto (tgt := 41) dX12_isFit_37 (by decide) ?_
        refine mf_istore_n [(2, .int 1), (0, .ref 218), (1, .int a1), (3, .int x2)] dX12_isFit_41 (Nat.le_of_ble_eq_true rfl) rfl ?_
        refine mf_iinc 3 (x2 + 2) [(3, .int (x2 + 2)), (2, .int 1), (0, .ref 218), (1, .int a1)] dX12_isFit_42 rfl rfl (Nat.le_of_ble_eq_true rfl) rfl ?_
        refine mf_goto (tgt := 4) dX12_isFit_45 (by decide) ?_
        refine mf_sub [2, 3, 1, 0] rfl ?_
        exact h4 _ _
set_option maxRecDepth 100000 in
set_option maxHeartbeats 4000000 in
theorem aX12_leftBy (d : Nat) (q : m_S) (hM : isM q) (a1 : Int32) : AC rI yX12_leftBy cX12_leftBy 4 (some .int) (d + 4) [.ref 218, .int a1] q (fX12_leftBy a1) := by
  refine ac_of (by decide +kernel) (Nat.le_of_ble_eq_true rfl) ?_
  unfold fX12_leftBy
  show MF rI (yX12_leftBy.cls, cX12_leftBy, 4, (some .int), yX12_leftBy.name, d + 4, 0, 0) 0 [(0, .ref 218), (1, .int a1)] [] q _
  refine mf_iconst (v := 0) dX12_leftBy_0 rfl ?_
  refine mf_istore_n [(2, .int 0), (0, .ref 218), (1, .int a1)] dX12_leftBy_1 (Nat.le_of_ble_eq_true rfl) rfl ?_
  refine mf_iconst (v := 0) dX12_leftBy_2 rfl ?_
  refine mf_istore_n [(3, .int 0), (2, .int 0), (0, .ref 218), (1, .int a1)] dX12_leftBy_3 (Nat.le_of_ble_eq_true rfl) rfl ?_
  refine mf_sub [2, 3, 1, 0] rfl ?_
  refine mf_lz2 (lv := fun x1 x2 => [(0, .ref 218), (1, .int a1), (2, .int x1), (3, .int x2)]) (fun L4 h4 x1 x2 => ?_) _ _ _
  show MF rI (yX12_leftBy.cls, cX12_leftBy, 4, (some .int), yX12_leftBy.name, d + 4, 0, 0) 4 [(0, .ref 218), (1, .int a1), (2, .int x1), (3, .int x2)] [] q _
  refine mf_iload_n 3 dX12_leftBy_4 rfl ?_
  refine mf_aload_n 0 dX12_leftBy_5 rfl ?_
  refine mf_geti 12 33 dX12_leftBy_6 fl_X12_77 (by decide) (by decide) rfl (mo_o hM) (fun v3 => ?_)
  refine mf_icmp_ge (tgt := 32) dX12_leftBy_9 (by decide) ?_ ?_
  · refine mf_iload_n 2 dX12_leftBy_32 rfl ?_
    refine mf_aload_n 0 dX12_leftBy_33 rfl ?_
    refine mf_geti 12 33 dX12_leftBy_34 fl_X12_77 (by decide) (by decide) rfl (mo_o hM) (fun v4 => ?_)
    refine mf_iload_n 2 dX12_leftBy_37 rfl ?_
    refine mf_isub dX12_leftBy_38 ?_
    refine mf_cSi (rest := []) [.int x1, .int (v4 - x1)] (aX12_greater (d + 2) q x1 (v4 - x1)) mY_X12_greater dX12_leftBy_39 ml_X12_434 rfl rfl (Nat.le_of_ble_eq_true rfl) rfl (fun v5 => ?_)
    exact mf_ireturn dX12_leftBy_42 rfl rfl ⟨rfl, rfl⟩
  · refine mf_iload_n 2 dX12_leftBy_12 rfl ?_
    refine mf_aload_n 0 dX12_leftBy_13 rfl ?_
    refine mf_iload_n 1 dX12_leftBy_14 rfl ?_
    refine mf_aload_n 0 dX12_leftBy_15 rfl ?_
    refine mf_getr 12 32 dX12_leftBy_16 fl_X12_74 (by decide) (by decide) rfl (mo_o hM) (mo_r32 hM) (by decide) ?_
    refine mf_iload_n 3 dX12_leftBy_19 rfl ?_
    refine mf_iald dX12_leftBy_20 (mo_a32 hM) (fun v6 => ?_)
    refine mf_cVi (rest := [.int x1]) [.int a1, .int v6] (aX12_showsAt (d + 0) q hM a1 v6) mY_X12_showsAt dX12_leftBy_21 ml_X12_431 (mo_o hM) rfl rfl (Nat.le_of_ble_eq_true rfl) rfl (fun v7 => ?_)
    refine mf_iadd dX12_leftBy_24 ?_
    refine mf_istore_n [(2, .int (x1 + v7)), (0, .ref 218), (1, .int a1), (3, .int x2)] dX12_leftBy_25 (Nat.le_of_ble_eq_true rfl) rfl ?_
    refine mf_iinc 3 (x2 + 1) [(3, .int (x2 + 1)), (2, .int (x1 + v7)), (0, .ref 218), (1, .int a1)] dX12_leftBy_26 rfl rfl (Nat.le_of_ble_eq_true rfl) rfl ?_
    refine mf_goto (tgt := 4) dX12_leftBy_29 (by decide) ?_
    refine mf_sub [2, 3, 1, 0] rfl ?_
    exact h4 _ _
set_option maxRecDepth 100000 in
set_option maxHeartbeats 4000000 in
theorem aX12_fits (d : Nat) (q : m_S) (hM : isM q)  : AC rI yX12_fits cX12_fits 3 (some .int) (d + 5) [.ref 218] q (fX12_fits ) := by
  refine ac_of (by decide +kernel) (Nat.le_of_ble_eq_true rfl) ?_
  unfold fX12_fits
  show MF rI (yX12_fits.cls, cX12_fits, 3, (some .int), yX12_fits.name, d + 5, 0, 0) 0 [(0, .ref 218)] [] q _
  refine mf_aload_n 0 dX12_fits_0 rfl ?_
  refine mf_iconst (v := 0) dX12_fits_1 rfl ?_
  refine mf_puti 12 0 dX12_fits_2 fl_X12_1 (by decide) (by decide) rfl rfl (mo_o hM) ?_
  refine mf_aload_n 0 dX12_fits_5 rfl ?_
  refine mf_sipush (v := 1460) dX12_fits_6 (by decide) ?_
  refine mf_cVv (rest := []) [.int 1460] (aX12_taken (d + 3) q hM 1460) mY_X12_taken dX12_fits_9 ml_X12_283 (mo_o hM) rfl rfl (Nat.le_of_ble_eq_true rfl) rfl (fun _ => ?_)
  refine mf_aload_n 0 dX12_fits_12 rfl ?_
  refine mf_geti 12 3 dX12_fits_13 fl_X12_18 (by decide) (by decide) rfl (mo_o hM) (fun v1 => ?_)
  refine mf_iconst (v := 2) dX12_fits_16 rfl ?_
  refine mf_bipush (v := 12) dX12_fits_17 (by decide) ?_
  refine mf_cSi (rest := []) [.int v1, .int 2, .int 12] (aX12_isIn (d + 3) q v1 2 12) mY_X12_isIn dX12_fits_19 ml_X12_211 rfl rfl (Nat.le_of_ble_eq_true rfl) rfl (fun v2 => ?_)
  refine mf_if_eq (tgt := 35) dX12_fits_22 (by decide) ?_ ?_
  · refine mf_iconst (v := -1) dX12_fits_35 rfl ?_
    exact mf_ireturn dX12_fits_36 rfl rfl ⟨rfl, rfl⟩
  · refine mf_aload_n 0 dX12_fits_25 rfl ?_
    refine mf_geti 12 3 dX12_fits_26 fl_X12_18 (by decide) (by decide) rfl (mo_o hM) (fun v3 => ?_)
    refine mf_iconst (v := 2) dX12_fits_29 rfl ?_
    refine mf_iremC dX12_fits_30 (by decide) ?_
    refine mf_iconst (v := 1) dX12_fits_31 rfl ?_
    refine mf_icmp_ne (tgt := 37) dX12_fits_32 (by decide) ?_ ?_
    · refine mf_iconst (v := 0) dX12_fits_37 rfl ?_
      refine mf_istore_n [(1, .int 0), (0, .ref 218)] dX12_fits_38 (Nat.le_of_ble_eq_true rfl) rfl ?_
      refine mf_sub [1, 0] rfl ?_
      refine mf_lz1 (lv := fun x4 => [(0, .ref 218), (1, .int x4)]) (fun L39 h39 x4 => ?_) _ _
      show MF rI (yX12_fits.cls, cX12_fits, 3, (some .int), yX12_fits.name, d + 5, 0, 0) 39 [(0, .ref 218), (1, .int x4)] [] q _
      refine mf_iload_n 1 dX12_fits_39 rfl ?_
      refine mf_aload_n 0 dX12_fits_40 rfl ?_
      refine mf_geti 12 3 dX12_fits_41 fl_X12_18 (by decide) (by decide) rfl (mo_o hM) (fun v5 => ?_)
      refine mf_icmp_ge (tgt := 78) dX12_fits_44 (by decide) ?_ ?_
      · refine mf_iconst (v := 0) dX12_fits_78 rfl ?_
        refine mf_istore_n [(1, .int 0), (0, .ref 218)] dX12_fits_79 (Nat.le_of_ble_eq_true rfl) rfl ?_
        refine mf_iconst (v := 0) dX12_fits_80 rfl ?_
        refine mf_istore_n [(2, .int 0), (1, .int 0), (0, .ref 218)] dX12_fits_81 (Nat.le_of_ble_eq_true rfl) rfl ?_
        refine mf_sub [2, 1, 0] rfl ?_
        refine mf_lz2 (lv := fun x6 x7 => [(0, .ref 218), (1, .int x6), (2, .int x7)]) (fun L82 h82 x6 x7 => ?_) _ _ _
        show MF rI (yX12_fits.cls, cX12_fits, 3, (some .int), yX12_fits.name, d + 5, 0, 0) 82 [(0, .ref 218), (1, .int x6), (2, .int x7)] [] q _
        refine mf_iload_n 2 dX12_fits_82 rfl ?_
        refine mf_iconst (v := 2) dX12_fits_83 rfl ?_
        refine mf_aload_n 0 dX12_fits_84 rfl ?_
        refine mf_getr 12 6 dX12_fits_85 fl_X12_33 (by decide) (by decide) rfl (mo_o hM) (mo_r6 hM) (by decide) ?_
        refine mf_iconst (v := 0) dX12_fits_88 rfl ?_
        refine mf_iald dX12_fits_89 (mo_a6 hM) (fun v8 => ?_)
        refine mf_imul dX12_fits_90 ?_
        refine mf_icmp_gt (tgt := 116) dX12_fits_91 (by decide) ?_ ?_
        · refine mf_iload_n 1 dX12_fits_116 rfl ?_
          refine mf_if_ne (tgt := 122) dX12_fits_117 (by decide) ?_ ?_
          · refine mf_aload_n 0 dX12_fits_122 rfl ?_
            refine mf_iconst (v := 0) dX12_fits_123 rfl ?_
            refine mf_puti 12 33 dX12_fits_124 fl_X12_77 (by decide) (by decide) rfl rfl (mo_o hM) ?_
            refine mf_iconst (v := 0) dX12_fits_127 rfl ?_
            refine mf_istore_n [(2, .int 0), (0, .ref 218), (1, .int x6)] dX12_fits_128 (Nat.le_of_ble_eq_true rfl) rfl ?_
            refine mf_sub [1, 2, 0] rfl ?_
            refine mf_lz1 (lv := fun x9 => [(0, .ref 218), (1, .int x6), (2, .int x9)]) (fun L129 h129 x9 => ?_) _ _
            show MF rI (yX12_fits.cls, cX12_fits, 3, (some .int), yX12_fits.name, d + 5, 0, 0) 129 [(0, .ref 218), (1, .int x6), (2, .int x9)] [] q _
            refine mf_iload_n 2 dX12_fits_129 rfl ?_
            refine mf_iconst (v := 2) dX12_fits_130 rfl ?_
            refine mf_aload_n 0 dX12_fits_131 rfl ?_
            refine mf_getr 12 6 dX12_fits_132 fl_X12_33 (by decide) (by decide) rfl (mo_o hM) (mo_r6 hM) (by decide) ?_
            refine mf_iconst (v := 0) dX12_fits_135 rfl ?_
            refine mf_iald dX12_fits_136 (mo_a6 hM) (fun v10 => ?_)
            refine mf_imul dX12_fits_137 ?_
            refine mf_icmp_gt (tgt := 178) dX12_fits_138 (by decide) ?_ ?_
            · refine mf_aload_n 0 dX12_fits_178 rfl ?_
              refine mf_iconst (v := 0) dX12_fits_179 rfl ?_
              refine mf_puti 12 34 dX12_fits_180 fl_X12_440 (by decide) (by decide) rfl rfl (mo_o hM) ?_
              refine mf_iconst (v := 1) dX12_fits_183 rfl ?_
              refine mf_istore_n [(2, .int 1), (0, .ref 218), (1, .int x6)] dX12_fits_184 (Nat.le_of_ble_eq_true rfl) rfl ?_
              refine mf_sub [1, 2, 0] rfl ?_
              refine mf_lz1 (lv := fun x11 => [(0, .ref 218), (1, .int x6), (2, .int x11)]) (fun L185 h185 x11 => ?_) _ _
              show MF rI (yX12_fits.cls, cX12_fits, 3, (some .int), yX12_fits.name, d + 5, 0, 0) 185 [(0, .ref 218), (1, .int x6), (2, .int x11)] [] q _
              refine mf_iload_n 2 dX12_fits_185 rfl ?_
              refine mf_aload_n 0 dX12_fits_186 rfl ?_
              refine mf_getr 12 6 dX12_fits_187 fl_X12_33 (by decide) (by decide) rfl (mo_o hM) (mo_r6 hM) (by decide) ?_
              refine mf_iconst (v := 0) dX12_fits_190 rfl ?_
              refine mf_iald dX12_fits_191 (mo_a6 hM) (fun v12 => ?_)
              refine mf_icmp_ge (tgt := 222) dX12_fits_192 (by decide) ?_ ?_
              · refine mf_iload_n 1 dX12_fits_222 rfl ?_
                exact mf_ireturn dX12_fits_223 rfl rfl ⟨rfl, rfl⟩
              · refine mf_aload_n 0 dX12_fits_195 rfl ?_
                refine mf_iload_n 2 dX12_fits_196 rfl ?_
                refine mf_cVi (rest := []) [.int x11] (aX12_leftBy (d + 0) q hM x11) mY_X12_leftBy dX12_fits_197 ml_X12_443 (mo_o hM) rfl rfl (Nat.le_of_ble_eq_true rfl) rfl (fun v13 => ?_)
                refine mf_aload_n 0 dX12_fits_200 rfl ?_
                refine mf_aload_n 0 dX12_fits_201 rfl ?_
                refine mf_geti 12 34 dX12_fits_202 fl_X12_440 (by decide) (by decide) rfl (mo_o hM) (fun v14 => ?_)
                refine mf_cVi (rest := [.int v13]) [.int v14] (aX12_leftBy (d + 0) q hM v14) mY_X12_leftBy dX12_fits_205 ml_X12_443 (mo_o hM) rfl rfl (Nat.le_of_ble_eq_true rfl) rfl (fun v15 => ?_)
                refine mf_icmp_ge (tgt := 216) dX12_fits_208 (by decide) ?_ ?_
                · refine mf_iinc 2 (x11 + 1) [(2, .int (x11 + 1)), (0, .ref 218), (1, .int x6)] dX12_fits_216 rfl rfl (Nat.le_of_ble_eq_true rfl) rfl ?_
                  refine mf_goto (tgt := 185) dX12_fits_219 (by decide) ?_
                  refine mf_sub [1, 2, 0] rfl ?_
                  exact h185 _
                · refine mf_aload_n 0 dX12_fits_211 rfl ?_
                  refine mf_iload_n 2 dX12_fits_212 rfl ?_
                  refine mf_puti 12 34 dX12_fits_213 fl_X12_440 (by decide) (by decide) rfl rfl (mo_o hM) ?_
                  refine mf_iinc 2 (x11 + 1) [(2, .int (x11 + 1)), (0, .ref 218), (1, .int x6)] dX12_fits_216 rfl rfl (Nat.le_of_ble_eq_true rfl) rfl ?_
                  refine mf_goto (tgt := 185) dX12_fits_219 (by decide) ?_
                  refine mf_sub [1, 2, 0] rfl ?_
                  exact h185 _
            · refine mf_aload_n 0 dX12_fits_141 rfl ?_
              refine mf_iload_n 2 dX12_fits_142 rfl ?_
              refine mf_cVi (rest := []) [.int x9] (aX12_isFit (d + 0) q hM x9) mY_X12_isFit dX12_fits_143 ml_X12_437 (mo_o hM) rfl rfl (Nat.le_of_ble_eq_true rfl) rfl (fun v16 => ?_)
              refine mf_if_ne (tgt := 152) dX12_fits_146 (by decide) ?_ ?_
              · refine mf_aload_n 0 dX12_fits_152 rfl ?_
                refine mf_getr 12 32 dX12_fits_153 fl_X12_74 (by decide) (by decide) rfl (mo_o hM) (mo_r32 hM) (by decide) ?_
                refine mf_aload_n 0 dX12_fits_156 rfl ?_
                refine mf_geti 12 33 dX12_fits_157 fl_X12_77 (by decide) (by decide) rfl (mo_o hM) (fun v17 => ?_)
                refine mf_iload_n 2 dX12_fits_160 rfl ?_
                refine mf_iast dX12_fits_161 (mo_a32 hM) ?_
                refine mf_aload_n 0 dX12_fits_162 rfl ?_
                refine mf_dup dX12_fits_163 rfl ?_
                refine mf_geti 12 33 dX12_fits_164 fl_X12_77 (by decide) (by decide) rfl (mo_o hM) (fun v18 => ?_)
                refine mf_iconst (v := 1) dX12_fits_167 rfl ?_
                refine mf_iadd dX12_fits_168 ?_
                refine mf_puti 12 33 dX12_fits_169 fl_X12_77 (by decide) (by decide) rfl rfl (mo_o hM) ?_
                refine mf_iinc 2 (x9 + 1) [(2, .int (x9 + 1)), (0, .ref 218), (1, .int x6)] dX12_fits_172 rfl rfl (Nat.le_of_ble_eq_true rfl) rfl ?_
                refine mf_goto (tgt := 129) dX12_fits_175 (by decide) ?_
                refine mf_sub [1, 2, 0] rfl ?_
                exact h129 _
              · refine mf_goto (tgt := 172) dX12_fits_149 (by decide) ?_
                refine mf_iinc 2 (x9 + 1) [(2, .int (x9 + 1)), (0, .ref 218), (1, .int x6)] dX12_fits_172 rfl rfl (Nat.le_of_ble_eq_true rfl) rfl ?_
                refine mf_goto (tgt := 129) dX12_fits_175 (by decide) ?_
                refine mf_sub [1, 2, 0] rfl ?_
                exact h129 _
          · refine mf_iconst (v := 0) dX12_fits_120 rfl ?_
            exact mf_ireturn dX12_fits_121 rfl rfl ⟨rfl, rfl⟩
        · refine mf_iload_n 1 dX12_fits_94 rfl ?_
          refine mf_aload_n 0 dX12_fits_95 rfl ?_
          refine mf_iload_n 2 dX12_fits_96 rfl ?_
          refine mf_cVi (rest := [.int x6]) [.int x7] (aX12_isFit (d + 0) q hM x7) mY_X12_isFit dX12_fits_97 ml_X12_437 (mo_o hM) rfl rfl (Nat.le_of_ble_eq_true rfl) rfl (fun v19 => ?_)
          refine mf_if_eq (tgt := 107) dX12_fits_100 (by decide) ?_ ?_
          · refine mf_iconst (v := 0) dX12_fits_107 rfl ?_
            refine mf_iadd dX12_fits_108 ?_
            refine mf_istore_n [(1, .int (x6 + 0)), (0, .ref 218), (2, .int x7)] dX12_fits_109 (Nat.le_of_ble_eq_true rfl) rfl ?_
            refine mf_iinc 2 (x7 + 1) [(2, .int (x7 + 1)), (1, .int (x6 + 0)), (0, .ref 218)] dX12_fits_110 rfl rfl (Nat.le_of_ble_eq_true rfl) rfl ?_
            refine mf_goto (tgt := 82) dX12_fits_113 (by decide) ?_
            refine mf_sub [2, 1, 0] rfl ?_
            exact h82 _ _
          · refine mf_iconst (v := 1) dX12_fits_103 rfl ?_
            refine mf_goto (tgt := 108) dX12_fits_104 (by decide) ?_
            refine mf_iadd dX12_fits_108 ?_
            refine mf_istore_n [(1, .int (x6 + 1)), (0, .ref 218), (2, .int x7)] dX12_fits_109 (Nat.le_of_ble_eq_true rfl) rfl ?_
            refine mf_iinc 2 (x7 + 1) [(2, .int (x7 + 1)), (1, .int (x6 + 1)), (0, .ref 218)] dX12_fits_110 rfl rfl (Nat.le_of_ble_eq_true rfl) rfl ?_
            refine mf_goto (tgt := 82) dX12_fits_113 (by decide) ?_
            refine mf_sub [2, 1, 0] rfl ?_
            exact h82 _ _
      · refine mf_aload_n 0 dX12_fits_47 rfl ?_
        refine mf_aload_n 0 dX12_fits_48 rfl ?_
        refine mf_iload_n 1 dX12_fits_49 rfl ?_
        refine mf_cVi (rest := [.ref 218]) [.int x4] (aX12_octet (d + 3) q hM x4) mY_X12_octet dX12_fits_50 ml_X12_428 (mo_o hM) rfl rfl (Nat.le_of_ble_eq_true rfl) rfl (fun v20 => ?_)
        refine mf_cVi (rest := []) [.int v20] (aX12_isSection (d + 2) q hM v20) mY_X12_isSection dX12_fits_53 ml_X12_311 (mo_o hM) rfl rfl (Nat.le_of_ble_eq_true rfl) rfl (fun v21 => ?_)
        refine mf_if_eq (tgt := 70) dX12_fits_56 (by decide) ?_ ?_
        · refine mf_iconst (v := -1) dX12_fits_70 rfl ?_
          exact mf_ireturn dX12_fits_71 rfl rfl ⟨rfl, rfl⟩
        · refine mf_aload_n 0 dX12_fits_59 rfl ?_
          refine mf_iload_n 1 dX12_fits_60 rfl ?_
          refine mf_iconst (v := 1) dX12_fits_61 rfl ?_
          refine mf_iadd dX12_fits_62 ?_
          refine mf_cVi (rest := []) [.int (x4 + 1)] (aX12_octet (d + 3) q hM (x4 + 1)) mY_X12_octet dX12_fits_63 ml_X12_428 (mo_o hM) rfl rfl (Nat.le_of_ble_eq_true rfl) rfl (fun v22 => ?_)
          refine mf_iconst (v := 1) dX12_fits_66 rfl ?_
          refine mf_icmp_le (tgt := 72) dX12_fits_67 (by decide) ?_ ?_
          · refine mf_iinc 1 (x4 + 2) [(1, .int (x4 + 2)), (0, .ref 218)] dX12_fits_72 rfl rfl (Nat.le_of_ble_eq_true rfl) rfl ?_
            refine mf_goto (tgt := 39) dX12_fits_75 (by decide) ?_
            refine mf_sub [1, 0] rfl ?_
            exact h39 _
          · refine mf_iconst (v := -1) dX12_fits_70 rfl ?_
            exact mf_ireturn dX12_fits_71 rfl rfl ⟨rfl, rfl⟩
    · refine mf_iconst (v := -1) dX12_fits_35 rfl ?_
      exact mf_ireturn dX12_fits_36 rfl rfl ⟨rfl, rfl⟩
set_option maxRecDepth 100000 in
set_option maxHeartbeats 4000000 in
theorem aX12_fitsAt (d : Nat) (q : m_S) (hM : isM q) (a1 : Int32) : AC rI yX12_fitsAt cX12_fitsAt 2 (some .int) (d + 2) [.ref 218, .int a1] q (fX12_fitsAt a1) := by
  refine ac_of (by decide +kernel) (Nat.le_of_ble_eq_true rfl) ?_
  unfold fX12_fitsAt
  show MF rI (yX12_fitsAt.cls, cX12_fitsAt, 2, (some .int), yX12_fitsAt.name, d + 2, 0, 0) 0 [(0, .ref 218), (1, .int a1)] [] q _
  refine mf_aload_n 0 dX12_fitsAt_0 rfl ?_
  refine mf_iconst (v := 0) dX12_fitsAt_1 rfl ?_
  refine mf_puti 12 0 dX12_fitsAt_2 fl_X12_1 (by decide) (by decide) rfl rfl (mo_o hM) ?_
  refine mf_iload_n 1 dX12_fitsAt_5 rfl ?_
  refine mf_iconst (v := 0) dX12_fitsAt_6 rfl ?_
  refine mf_aload_n 0 dX12_fitsAt_7 rfl ?_
  refine mf_geti 12 33 dX12_fitsAt_8 fl_X12_77 (by decide) (by decide) rfl (mo_o hM) (fun v1 => ?_)
  refine mf_iconst (v := 1) dX12_fitsAt_11 rfl ?_
  refine mf_isub dX12_fitsAt_12 ?_
  refine mf_cSi (rest := []) [.int a1, .int 0, .int (v1 - 1)] (aX12_isIn (d + 0) q a1 0 (v1 - 1)) mY_X12_isIn dX12_fitsAt_13 ml_X12_211 rfl rfl (Nat.le_of_ble_eq_true rfl) rfl (fun v2 => ?_)
  refine mf_if_eq (tgt := 28) dX12_fitsAt_16 (by decide) ?_ ?_
  · refine mf_iconst (v := -1) dX12_fitsAt_28 rfl ?_
    exact mf_ireturn dX12_fitsAt_29 rfl rfl ⟨rfl, rfl⟩
  · refine mf_aload_n 0 dX12_fitsAt_19 rfl ?_
    refine mf_getr 12 32 dX12_fitsAt_20 fl_X12_74 (by decide) (by decide) rfl (mo_o hM) (mo_r32 hM) (by decide) ?_
    refine mf_iload_n 1 dX12_fitsAt_23 rfl ?_
    refine mf_iald dX12_fitsAt_24 (mo_a32 hM) (fun v3 => ?_)
    refine mf_goto (tgt := 29) dX12_fitsAt_25 (by decide) ?_
    exact mf_ireturn dX12_fitsAt_29 rfl rfl ⟨rfl, rfl⟩
set_option maxRecDepth 100000 in
set_option maxHeartbeats 4000000 in
theorem aX12_ask (d : Nat) (q : m_S) (hM : isM q)  : AC rI yX12_ask cX12_ask 1 (some .int) (d + 1) [.ref 218] q (fX12_ask ) := by
  refine ac_of (by decide +kernel) (Nat.le_of_ble_eq_true rfl) ?_
  unfold fX12_ask
  show MF rI (yX12_ask.cls, cX12_ask, 1, (some .int), yX12_ask.name, d + 1, 0, 0) 0 [(0, .ref 218)] [] q _
  refine mf_aload_n 0 dX12_ask_0 rfl ?_
  refine mf_iconst (v := 0) dX12_ask_1 rfl ?_
  refine mf_puti 12 0 dX12_ask_2 fl_X12_1 (by decide) (by decide) rfl rfl (mo_o hM) ?_
  refine mf_aload_n 0 dX12_ask_5 rfl ?_
  refine mf_geti 12 33 dX12_ask_6 fl_X12_77 (by decide) (by decide) rfl (mo_o hM) (fun v1 => ?_)
  refine mf_if_le (tgt := 19) dX12_ask_9 (by decide) ?_ ?_
  · refine mf_iconst (v := -1) dX12_ask_19 rfl ?_
    exact mf_ireturn dX12_ask_20 rfl rfl ⟨rfl, rfl⟩
  · refine mf_aload_n 0 dX12_ask_12 rfl ?_
    refine mf_geti 12 34 dX12_ask_13 fl_X12_440 (by decide) (by decide) rfl (mo_o hM) (fun v2 => ?_)
    refine mf_goto (tgt := 20) dX12_ask_16 (by decide) ?_
    exact mf_ireturn dX12_ask_20 rfl rfl ⟨rfl, rfl⟩
