set_option maxRecDepth 100000 in
set_option maxHeartbeats 4000000 in
theorem aX12_isMet (d : Nat) (q : m_S) (hM : isM q) (a1 : Int32) : AC rI yX12_isMet cX12_isMet 5 (some .boolean) (d + 2) [.ref 218, .int a1] q (fX12_isMet a1) := by
  refine ac_of (by decide +kernel) (Nat.le_of_ble_eq_true rfl) ?_
  unfold fX12_isMet
  show MF rI (yX12_isMet.cls, cX12_isMet, 5, (some .boolean), yX12_isMet.name, d + 2, 0, 0) 0 [(0, .ref 218), (1, .int a1)] [] q _
  refine mf_iconst (v := 0) dX12_isMet_0 rfl ?_
  refine mf_istore_n [(2, .int 0), (0, .ref 218), (1, .int a1)] dX12_isMet_1 (Nat.le_of_ble_eq_true rfl) rfl ?_
  refine mf_aload_n 1 dX12_isMet_2 rfl ?_
  refine mf_getr 12 6 dX12_isMet_3 fl_X12_33 (by decide) (by decide) rfl (mo_o hM) (mo_r6 hM) (by decide) ?_
  refine mf_bipush (v := 106) dX12_isMet_6 (by decide) ?_
  refine mf_iload_n 2 dX12_isMet_8 rfl ?_
  refine mf_iadd dX12_isMet_9 ?_
  refine mf_iald dX12_isMet_10 (mo_a6 hM) (fun v1 => ?_)
  refine mf_istore_n [(3, .int v1), (2, .int 0), (0, .ref 218), (1, .int a1)] dX12_isMet_11 (Nat.le_of_ble_eq_true rfl) rfl ?_
  refine mf_iconst (v := 0) dX12_isMet_12 rfl ?_
  refine mf_istore [(4, .int 0), (3, .int v1), (2, .int 0), (0, .ref 218), (1, .int a1)] dX12_isMet_13 (Nat.le_of_ble_eq_true rfl) rfl ?_
  refine mf_sub [3, 2, 1, 0] rfl ?_
  refine mf_lz2 (lv := fun x2 x3 => [(0, .ref 218), (2, .int x2), (3, .int v1), (4, .int x3)]) (fun L15 h15 x2 x3 => ?_) _ _ _
  show MF rI (yX12_isMet.cls, cX12_isMet, 5, (some .boolean), yX12_isMet.name, d + 2, 0, 0) 15 [(0, .ref 218), (2, .int x2), (3, .int v1), (4, .int x3)] [] q _
  refine mf_iload 3 dX12_isMet_15 rfl ?_
  refine mf_aload_n 0 dX12_isMet_17 rfl ?_
  refine mf_getr 12 6 dX12_isMet_18 fl_X12_33 (by decide) (by decide) rfl (mo_o hM) (mo_r6 hM) (by decide) ?_
  refine mf_bipush (v := 6) dX12_isMet_21 (by decide) ?_
  refine mf_iald dX12_isMet_23 (mo_a6 hM) (fun v4 => ?_)
  refine mf_icmp_ge (tgt := 107) dX12_isMet_24 (by decide) ?_ ?_
  · refine mf_iload_n 1 dX12_isMet_107 rfl ?_
    exact mf_zreturn dX12_isMet_108 rfl ⟨rfl, rfl⟩
  · refine mf_iload_n 1 dX12_isMet_27 rfl ?_
    refine mf_if_ne (tgt := 95) dX12_isMet_28 (by decide) ?_ ?_
    · refine mf_iconst (v := 1) dX12_isMet_95 rfl ?_
      refine mf_goto (tgt := 100) dX12_isMet_96 (by decide) ?_
      refine mf_istore_n [(2, .int 1), (0, .ref 218), (3, .int v1), (4, .int x3)] dX12_isMet_100 (Nat.le_of_ble_eq_true rfl) rfl ?_
      refine mf_iinc 3 (x3 + 1) [(4, .int (x3 + 1)), (2, .int 1), (0, .ref 218), (3, .int v1)] dX12_isMet_101 rfl rfl (Nat.le_of_ble_eq_true rfl) rfl ?_
      refine mf_goto (tgt := 15) dX12_isMet_104 (by decide) ?_
      refine mf_sub [2, 1, 3, 0] rfl ?_
      exact h15 _ _
    · refine mf_aload_n 0 dX12_isMet_31 rfl ?_
      refine mf_getr 12 6 dX12_isMet_32 fl_X12_33 (by decide) (by decide) rfl (mo_o hM) (mo_r6 hM) (by decide) ?_
      refine mf_sipush (v := 281) dX12_isMet_35 (by decide) ?_
      refine mf_iald dX12_isMet_38 (mo_a6 hM) (fun v5 => ?_)
      refine mf_iload 3 dX12_isMet_39 rfl ?_
      refine mf_cSi (rest := []) [.int v5, .int x3] (aX12_bitOf (d + 0) q v5 x3) mY_X12_bitOf dX12_isMet_41 ml_X12_280 rfl rfl (Nat.le_of_ble_eq_true rfl) rfl (fun v6 => ?_)
      refine mf_if_ne (tgt := 99) dX12_isMet_44 (by decide) ?_ ?_
      · refine mf_iconst (v := 0) dX12_isMet_99 rfl ?_
        refine mf_istore_n [(2, .int 0), (0, .ref 218), (3, .int v1), (4, .int x3)] dX12_isMet_100 (Nat.le_of_ble_eq_true rfl) rfl ?_
        refine mf_iinc 3 (x3 + 1) [(4, .int (x3 + 1)), (2, .int 0), (0, .ref 218), (3, .int v1)] dX12_isMet_101 rfl rfl (Nat.le_of_ble_eq_true rfl) rfl ?_
        refine mf_goto (tgt := 15) dX12_isMet_104 (by decide) ?_
        refine mf_sub [2, 1, 3, 0] rfl ?_
        exact h15 _ _
      · refine mf_aload_n 0 dX12_isMet_47 rfl ?_
        refine mf_getr 12 6 dX12_isMet_48 fl_X12_33 (by decide) (by decide) rfl (mo_o hM) (mo_r6 hM) (by decide) ?_
        refine mf_sipush (v := 271) dX12_isMet_51 (by decide) ?_
        refine mf_iload 3 dX12_isMet_54 rfl ?_
        refine mf_iadd dX12_isMet_56 ?_
        refine mf_iald dX12_isMet_57 (mo_a6 hM) (fun v7 => ?_)
        refine mf_aload_n 0 dX12_isMet_58 rfl ?_
        refine mf_getr 12 6 dX12_isMet_59 fl_X12_33 (by decide) (by decide) rfl (mo_o hM) (mo_r6 hM) (by decide) ?_
        refine mf_bipush (v := 90) dX12_isMet_62 (by decide) ?_
        refine mf_iload_n 2 dX12_isMet_64 rfl ?_
        refine mf_iadd dX12_isMet_65 ?_
        refine mf_iald dX12_isMet_66 (mo_a6 hM) (fun v8 => ?_)
        refine mf_iconst (v := 1) dX12_isMet_67 rfl ?_
        refine mf_iadd dX12_isMet_68 ?_
        refine mf_icmp_ne (tgt := 99) dX12_isMet_69 (by decide) ?_ ?_
        · refine mf_iconst (v := 0) dX12_isMet_99 rfl ?_
          refine mf_istore_n [(2, .int 0), (0, .ref 218), (3, .int v1), (4, .int x3)] dX12_isMet_100 (Nat.le_of_ble_eq_true rfl) rfl ?_
          refine mf_iinc 3 (x3 + 1) [(4, .int (x3 + 1)), (2, .int 0), (0, .ref 218), (3, .int v1)] dX12_isMet_101 rfl rfl (Nat.le_of_ble_eq_true rfl) rfl ?_
          refine mf_goto (tgt := 15) dX12_isMet_104 (by decide) ?_
          refine mf_sub [2, 1, 3, 0] rfl ?_
          exact h15 _ _
        · refine mf_aload_n 0 dX12_isMet_72 rfl ?_
          refine mf_getr 12 6 dX12_isMet_73 fl_X12_33 (by decide) (by decide) rfl (mo_o hM) (mo_r6 hM) (by decide) ?_
          refine mf_sipush (v := 221) dX12_isMet_76 (by decide) ?_
          refine mf_iload 3 dX12_isMet_79 rfl ?_
          refine mf_iadd dX12_isMet_81 ?_
          refine mf_iald dX12_isMet_82 (mo_a6 hM) (fun v9 => ?_)
          refine mf_aload_n 0 dX12_isMet_83 rfl ?_
          refine mf_getr 12 6 dX12_isMet_84 fl_X12_33 (by decide) (by decide) rfl (mo_o hM) (mo_r6 hM) (by decide) ?_
          refine mf_bipush (v := 98) dX12_isMet_87 (by decide) ?_
          refine mf_iload_n 2 dX12_isMet_89 rfl ?_
          refine mf_iadd dX12_isMet_90 ?_
          refine mf_iald dX12_isMet_91 (mo_a6 hM) (fun v10 => ?_)
          refine mf_icmp_ne (tgt := 99) dX12_isMet_92 (by decide) ?_ ?_
          · refine mf_iconst (v := 0) dX12_isMet_99 rfl ?_
            refine mf_istore_n [(2, .int 0), (0, .ref 218), (3, .int v1), (4, .int x3)] dX12_isMet_100 (Nat.le_of_ble_eq_true rfl) rfl ?_
            refine mf_iinc 3 (x3 + 1) [(4, .int (x3 + 1)), (2, .int 0), (0, .ref 218), (3, .int v1)] dX12_isMet_101 rfl rfl (Nat.le_of_ble_eq_true rfl) rfl ?_
            refine mf_goto (tgt := 15) dX12_isMet_104 (by decide) ?_
            refine mf_sub [2, 1, 3, 0] rfl ?_
            exact h15 _ _
          · refine mf_iconst (v := 1) dX12_isMet_95 rfl ?_
            refine mf_goto (tgt := 100) dX12_isMet_96 (by decide) ?_
            refine mf_istore_n [(2, .int 1), (0, .ref 218), (3, .int v1), (4, .int x3)] dX12_isMet_100 (Nat.le_of_ble_eq_true rfl) rfl ?_
            refine mf_iinc 3 (x3 + 1) [(4, .int (x3 + 1)), (2, .int 1), (0, .ref 218), (3, .int v1)] dX12_isMet_101 rfl rfl (Nat.le_of_ble_eq_true rfl) rfl ?_
            refine mf_goto (tgt := 15) dX12_isMet_104 (by decide) ?_
            refine mf_sub [2, 1, 3, 0] rfl ?_
            exact h15 _ _
set_option maxRecDepth 100000 in
set_option maxHeartbeats 4000000 in
theorem aX12_putsBack (d : Nat) (q : m_S) (hM : isM q) (a1 : Int32) : AC rU yX12_putsBack cX12_putsBack 2 none (d + 3) [.ref 218, .int a1] q (fX12_putsBack a1) := by
  refine ac_of (by decide +kernel) (Nat.le_of_ble_eq_true rfl) ?_
  unfold fX12_putsBack
  show MF rU (yX12_putsBack.cls, cX12_putsBack, 2, none, yX12_putsBack.name, d + 3, 0, 0) 0 [(0, .ref 218), (1, .int a1)] [] q _
  refine mf_aload_n 0 dX12_putsBack_0 rfl ?_
  refine mf_getr 12 6 dX12_putsBack_1 fl_X12_33 (by decide) (by decide) rfl (mo_o hM) (mo_r6 hM) (by decide) ?_
  refine mf_sipush (v := 229) dX12_putsBack_4 (by decide) ?_
  refine mf_iload_n 1 dX12_putsBack_7 rfl ?_
  refine mf_iadd dX12_putsBack_8 ?_
  refine mf_aload_n 0 dX12_putsBack_9 rfl ?_
  refine mf_iload_n 1 dX12_putsBack_10 rfl ?_
  refine mf_cVi (rest := [.int (229 + a1), .ref 220]) [.int a1] (aX12_isMet (d + 0) q hM a1) mY_X12_isMet dX12_putsBack_11 ml_X12_357 (mo_o hM) rfl rfl (Nat.le_of_ble_eq_true rfl) rfl (fun v1 => ?_)
  refine mf_jo2 (pj := 22) (lvj := fun w2 w3 => [(0, .ref 218), (1, .int a1)]) (stj := fun w2 w3 => [.int w2, .int w3, .ref 220]) (fun w2 w3 => ?_) (fun J22 hJ22 => ?_)
  · show MF rU (yX12_putsBack.cls, cX12_putsBack, 2, none, yX12_putsBack.name, d + 3, 0, 0) 22 [(0, .ref 218), (1, .int a1)] [.int w2, .int w3, .ref 220] q _
    refine mf_iast dX12_putsBack_22 (mo_a6 hM) ?_
    refine mf_aload_n 0 dX12_putsBack_23 rfl ?_
    refine mf_getr 12 6 dX12_putsBack_24 fl_X12_33 (by decide) (by decide) rfl (mo_o hM) (mo_r6 hM) (by decide) ?_
    refine mf_sipush (v := 239) dX12_putsBack_27 (by decide) ?_
    refine mf_iload_n 1 dX12_putsBack_30 rfl ?_
    refine mf_iadd dX12_putsBack_31 ?_
    refine mf_aload_n 0 dX12_putsBack_32 rfl ?_
    refine mf_iload_n 1 dX12_putsBack_33 rfl ?_
    refine mf_cVi (rest := [.int (239 + a1), .ref 220]) [.int a1] (aX12_isMet (d + 0) q hM a1) mY_X12_isMet dX12_putsBack_34 ml_X12_357 (mo_o hM) rfl rfl (Nat.le_of_ble_eq_true rfl) rfl (fun v4 => ?_)
    refine mf_if_eq (tgt := 50) dX12_putsBack_37 (by decide) ?_ ?_
    · refine mf_iconst (v := 0) dX12_putsBack_50 rfl ?_
      refine mf_iast dX12_putsBack_51 (mo_a6 hM) ?_
      exact mf_return dX12_putsBack_52 rfl ⟨rfl, rfl⟩
    · refine mf_aload_n 0 dX12_putsBack_40 rfl ?_
      refine mf_getr 12 6 dX12_putsBack_41 fl_X12_33 (by decide) (by decide) rfl (mo_o hM) (mo_r6 hM) (by decide) ?_
      refine mf_bipush (v := 7) dX12_putsBack_44 (by decide) ?_
      refine mf_iald dX12_putsBack_46 (mo_a6 hM) (fun v5 => ?_)
      refine mf_goto (tgt := 51) dX12_putsBack_47 (by decide) ?_
      refine mf_iast dX12_putsBack_51 (mo_a6 hM) ?_
      exact mf_return dX12_putsBack_52 rfl ⟨rfl, rfl⟩
  refine mf_if_eq (tgt := 21) dX12_putsBack_14 (by decide) ?_ ?_
  · refine mf_iconst (v := 0) dX12_putsBack_21 rfl ?_
    exact hJ22 _ _
  · refine mf_iconst (v := 3) dX12_putsBack_17 rfl ?_
    refine mf_goto (tgt := 22) dX12_putsBack_18 (by decide) ?_
    exact hJ22 _ _
set_option maxRecDepth 100000 in
set_option maxHeartbeats 4000000 in
theorem aX12_whyThrow (d : Nat) (q : m_S) (hM : isM q) (a1 : Int32) : AC rI yX12_whyThrow cX12_whyThrow 2 (some .int) (d + 4) [.ref 218, .int a1] q (fX12_whyThrow a1) := by
  refine ac_of (by decide +kernel) (Nat.le_of_ble_eq_true rfl) ?_
  unfold fX12_whyThrow
  show MF rI (yX12_whyThrow.cls, cX12_whyThrow, 2, (some .int), yX12_whyThrow.name, d + 4, 0, 0) 0 [(0, .ref 218), (1, .int a1)] [] q _
  refine mf_aload_n 0 dX12_whyThrow_0 rfl ?_
  refine mf_aload_n 0 dX12_whyThrow_1 rfl ?_
  refine mf_getr 12 6 dX12_whyThrow_2 fl_X12_33 (by decide) (by decide) rfl (mo_o hM) (mo_r6 hM) (by decide) ?_
  refine mf_bipush (v := 20) dX12_whyThrow_5 (by decide) ?_
  refine mf_iload_n 1 dX12_whyThrow_7 rfl ?_
  refine mf_iadd dX12_whyThrow_8 ?_
  refine mf_iald dX12_whyThrow_9 (mo_a6 hM) (fun v1 => ?_)
  refine mf_cVi (rest := []) [.int v1] (aX12_showsFull (d + 0) q hM v1) mY_X12_showsFull dX12_whyThrow_10 ml_X12_314 (mo_o hM) rfl rfl (Nat.le_of_ble_eq_true rfl) rfl (fun v2 => ?_)
  refine mf_if_eq (tgt := 20) dX12_whyThrow_13 (by decide) ?_ ?_
  · refine mf_aload_n 0 dX12_whyThrow_20 rfl ?_
    refine mf_iload_n 1 dX12_whyThrow_21 rfl ?_
    refine mf_sipush (v := 186) dX12_whyThrow_22 (by decide) ?_
    refine mf_cVi (rest := []) [.int a1, .int 186] (aX12_wanting (d + 1) q hM a1 186) mY_X12_wanting dX12_whyThrow_25 ml_X12_320 (mo_o hM) rfl rfl (Nat.le_of_ble_eq_true rfl) rfl (fun v3 => ?_)
    refine mf_aload_n 0 dX12_whyThrow_28 rfl ?_
    refine mf_iload_n 1 dX12_whyThrow_29 rfl ?_
    refine mf_sipush (v := 196) dX12_whyThrow_30 (by decide) ?_
    refine mf_cVi (rest := [.int v3]) [.int a1, .int 196] (aX12_wanting (d + 1) q hM a1 196) mY_X12_wanting dX12_whyThrow_33 ml_X12_320 (mo_o hM) rfl rfl (Nat.le_of_ble_eq_true rfl) rfl (fun v4 => ?_)
    refine mf_ior dX12_whyThrow_36 ?_
    refine mf_aload_n 0 dX12_whyThrow_37 rfl ?_
    refine mf_cVi (rest := [.int (v3 ||| v4)]) [] (aX12_busy (d + 2) q hM) mY_X12_busy dX12_whyThrow_38 ml_X12_345 (mo_o hM) rfl rfl (Nat.le_of_ble_eq_true rfl) rfl (fun v5 => ?_)
    refine mf_iand dX12_whyThrow_41 ?_
    refine mf_if_eq (tgt := 49) dX12_whyThrow_42 (by decide) ?_ ?_
    · refine mf_iconst (v := 0) dX12_whyThrow_49 rfl ?_
      exact mf_ireturn dX12_whyThrow_50 rfl rfl ⟨rfl, rfl⟩
    · refine mf_iconst (v := 2) dX12_whyThrow_45 rfl ?_
      refine mf_goto (tgt := 50) dX12_whyThrow_46 (by decide) ?_
      exact mf_ireturn dX12_whyThrow_50 rfl rfl ⟨rfl, rfl⟩
  · refine mf_iconst (v := 1) dX12_whyThrow_16 rfl ?_
    refine mf_goto (tgt := 50) dX12_whyThrow_17 (by decide) ?_
    exact mf_ireturn dX12_whyThrow_50 rfl rfl ⟨rfl, rfl⟩
set_option maxRecDepth 100000 in
set_option maxHeartbeats 4000000 in
theorem aX12_signalFor (d : Nat) (q : m_S) (hM : isM q) (a1 : Int32) : AC rI yX12_signalFor cX12_signalFor 3 (some .int) (d + 1) [.ref 218, .int a1] q (fX12_signalFor a1) := by
  refine ac_of (by decide +kernel) (Nat.le_of_ble_eq_true rfl) ?_
  unfold fX12_signalFor
  show MF rI (yX12_signalFor.cls, cX12_signalFor, 3, (some .int), yX12_signalFor.name, d + 1, 0, 0) 0 [(0, .ref 218), (1, .int a1)] [] q _
  refine mf_iconst (v := 0) dX12_signalFor_0 rfl ?_
  refine mf_istore_n [(2, .int 0), (0, .ref 218), (1, .int a1)] dX12_signalFor_1 (Nat.le_of_ble_eq_true rfl) rfl ?_
  refine mf_sub [1, 2, 0] rfl ?_
  refine mf_lz1 (lv := fun x1 => [(0, .ref 218), (1, .int a1), (2, .int x1)]) (fun L2 h2 x1 => ?_) _ _
  show MF rI (yX12_signalFor.cls, cX12_signalFor, 3, (some .int), yX12_signalFor.name, d + 1, 0, 0) 2 [(0, .ref 218), (1, .int a1), (2, .int x1)] [] q _
  refine mf_iload_n 2 dX12_signalFor_2 rfl ?_
  refine mf_aload_n 0 dX12_signalFor_3 rfl ?_
  refine mf_getr 12 6 dX12_signalFor_4 fl_X12_33 (by decide) (by decide) rfl (mo_o hM) (mo_r6 hM) (by decide) ?_
  refine mf_iconst (v := 3) dX12_signalFor_7 rfl ?_
  refine mf_iald dX12_signalFor_8 (mo_a6 hM) (fun v2 => ?_)
  refine mf_icmp_ge (tgt := 66) dX12_signalFor_9 (by decide) ?_ ?_
  · refine mf_iconst (v := -1) dX12_signalFor_66 rfl ?_
    exact mf_ireturn dX12_signalFor_67 rfl rfl ⟨rfl, rfl⟩
  · refine mf_aload_n 0 dX12_signalFor_12 rfl ?_
    refine mf_getr 12 6 dX12_signalFor_13 fl_X12_33 (by decide) (by decide) rfl (mo_o hM) (mo_r6 hM) (by decide) ?_
    refine mf_bipush (v := 90) dX12_signalFor_16 (by decide) ?_
    refine mf_iload_n 2 dX12_signalFor_18 rfl ?_
    refine mf_iadd dX12_signalFor_19 ?_
    refine mf_iald dX12_signalFor_20 (mo_a6 hM) (fun v3 => ?_)
    refine mf_iconst (v := 1) dX12_signalFor_21 rfl ?_
    refine mf_iadd dX12_signalFor_22 ?_
    refine mf_aload_n 0 dX12_signalFor_23 rfl ?_
    refine mf_getr 12 6 dX12_signalFor_24 fl_X12_33 (by decide) (by decide) rfl (mo_o hM) (mo_r6 hM) (by decide) ?_
    refine mf_sipush (v := 271) dX12_signalFor_27 (by decide) ?_
    refine mf_iload_n 1 dX12_signalFor_30 rfl ?_
    refine mf_iadd dX12_signalFor_31 ?_
    refine mf_iald dX12_signalFor_32 (mo_a6 hM) (fun v4 => ?_)
    refine mf_icmp_ne (tgt := 60) dX12_signalFor_33 (by decide) ?_ ?_
    · refine mf_iinc 2 (x1 + 1) [(2, .int (x1 + 1)), (0, .ref 218), (1, .int a1)] dX12_signalFor_60 rfl rfl (Nat.le_of_ble_eq_true rfl) rfl ?_
      refine mf_goto (tgt := 2) dX12_signalFor_63 (by decide) ?_
      refine mf_sub [1, 2, 0] rfl ?_
      exact h2 _
    · refine mf_aload_n 0 dX12_signalFor_36 rfl ?_
      refine mf_getr 12 6 dX12_signalFor_37 fl_X12_33 (by decide) (by decide) rfl (mo_o hM) (mo_r6 hM) (by decide) ?_
      refine mf_bipush (v := 98) dX12_signalFor_40 (by decide) ?_
      refine mf_iload_n 2 dX12_signalFor_42 rfl ?_
      refine mf_iadd dX12_signalFor_43 ?_
      refine mf_iald dX12_signalFor_44 (mo_a6 hM) (fun v5 => ?_)
      refine mf_aload_n 0 dX12_signalFor_45 rfl ?_
      refine mf_getr 12 6 dX12_signalFor_46 fl_X12_33 (by decide) (by decide) rfl (mo_o hM) (mo_r6 hM) (by decide) ?_
      refine mf_sipush (v := 221) dX12_signalFor_49 (by decide) ?_
      refine mf_iload_n 1 dX12_signalFor_52 rfl ?_
      refine mf_iadd dX12_signalFor_53 ?_
      refine mf_iald dX12_signalFor_54 (mo_a6 hM) (fun v6 => ?_)
      refine mf_icmp_ne (tgt := 60) dX12_signalFor_55 (by decide) ?_ ?_
      · refine mf_iinc 2 (x1 + 1) [(2, .int (x1 + 1)), (0, .ref 218), (1, .int a1)] dX12_signalFor_60 rfl rfl (Nat.le_of_ble_eq_true rfl) rfl ?_
        refine mf_goto (tgt := 2) dX12_signalFor_63 (by decide) ?_
        refine mf_sub [1, 2, 0] rfl ?_
        exact h2 _
      · refine mf_iload_n 2 dX12_signalFor_58 rfl ?_
        exact mf_ireturn dX12_signalFor_59 rfl rfl ⟨rfl, rfl⟩
set_option maxRecDepth 100000 in
set_option maxHeartbeats 4000000 in
theorem aX12_goesTo (d : Nat) (q : m_S) (hM : isM q) (a1 : Int32) : AC rI yX12_goesTo cX12_goesTo 7 (some .int) (d + 2) [.ref 218, .int a1] q (fX12_goesTo a1) := by
  refine ac_of (by decide +kernel) (Nat.le_of_ble_eq_true rfl) ?_
  unfold fX12_goesTo
  show MF rI (yX12_goesTo.cls, cX12_goesTo, 7, (some .int), yX12_goesTo.name, d + 2, 0, 0) 0 [(0, .ref 218), (1, .int a1)] [] q _
  refine mf_aload_n 0 dX12_goesTo_0 rfl ?_
  refine mf_iload_n 1 dX12_goesTo_1 rfl ?_
  refine mf_cVi (rest := []) [.int a1] (aX12_signalFor (d + 0) q hM a1) mY_X12_signalFor dX12_goesTo_2 ml_X12_360 (mo_o hM) rfl rfl (Nat.le_of_ble_eq_true rfl) rfl (fun v1 => ?_)
  refine mf_istore_n [(2, .int v1), (0, .ref 218), (1, .int a1)] dX12_goesTo_5 (Nat.le_of_ble_eq_true rfl) rfl ?_
  refine mf_iload_n 0 dX12_goesTo_6 rfl ?_
  refine mf_if_lt (tgt := 60) dX12_goesTo_7 (by decide) ?_ ?_
  · refine mf_aload_n 1 dX12_goesTo_60 rfl ?_
    refine mf_getr 12 6 dX12_goesTo_61 fl_X12_33 (by decide) (by decide) rfl (mo_o hM) (mo_r6 hM) (by decide) ?_
    refine mf_sipush (v := 271) dX12_goesTo_64 (by decide) ?_
    refine mf_iload_n 2 dX12_goesTo_67 rfl ?_
    refine mf_iadd dX12_goesTo_68 ?_
    refine mf_iald dX12_goesTo_69 (mo_a6 hM) (fun v2 => ?_)
    refine mf_iconst (v := 1) dX12_goesTo_70 rfl ?_
    refine mf_isub dX12_goesTo_71 ?_
    refine mf_istore_n [(3, .int (v2 - 1)), (2, .int v1), (0, .ref 218), (1, .int a1)] dX12_goesTo_72 (Nat.le_of_ble_eq_true rfl) rfl ?_
    refine mf_iconst (v := 0) dX12_goesTo_73 rfl ?_
    refine mf_istore [(4, .int 0), (3, .int (v2 - 1)), (2, .int v1), (0, .ref 218), (1, .int a1)] dX12_goesTo_74 (Nat.le_of_ble_eq_true rfl) rfl ?_
    refine mf_iconst (v := 0) dX12_goesTo_76 rfl ?_
    refine mf_istore [(5, .int 0), (4, .int 0), (3, .int (v2 - 1)), (2, .int v1), (0, .ref 218), (1, .int a1)] dX12_goesTo_77 (Nat.le_of_ble_eq_true rfl) rfl ?_
    refine mf_sub [4, 5, 2, 1, 0] rfl ?_
    refine mf_lz2 (lv := fun x3 x4 => [(0, .ref 218), (1, .int a1), (3, .int (v2 - 1)), (4, .int x3), (5, .int x4)]) (fun L79 h79 x3 x4 => ?_) _ _ _
    show MF rI (yX12_goesTo.cls, cX12_goesTo, 7, (some .int), yX12_goesTo.name, d + 2, 0, 0) 79 [(0, .ref 218), (1, .int a1), (3, .int (v2 - 1)), (4, .int x3), (5, .int x4)] [] q _
    refine mf_iload 4 dX12_goesTo_79 rfl ?_
    refine mf_aload_n 0 dX12_goesTo_81 rfl ?_
    refine mf_getr 12 6 dX12_goesTo_82 fl_X12_33 (by decide) (by decide) rfl (mo_o hM) (mo_r6 hM) (by decide) ?_
    refine mf_iconst (v := 2) dX12_goesTo_85 rfl ?_
    refine mf_iald dX12_goesTo_86 (mo_a6 hM) (fun v5 => ?_)
    refine mf_icmp_ge (tgt := 232) dX12_goesTo_87 (by decide) ?_ ?_
    · refine mf_iload 3 dX12_goesTo_232 rfl ?_
      refine mf_if_eq (tgt := 242) dX12_goesTo_234 (by decide) ?_ ?_
      · refine mf_iconst (v := -1) dX12_goesTo_242 rfl ?_
        exact mf_ireturn dX12_goesTo_243 rfl rfl ⟨rfl, rfl⟩
      · refine mf_bipush (v := -2) dX12_goesTo_237 (by decide) ?_
        refine mf_goto (tgt := 243) dX12_goesTo_239 (by decide) ?_
        exact mf_ireturn dX12_goesTo_243 rfl rfl ⟨rfl, rfl⟩
    · refine mf_aload_n 0 dX12_goesTo_90 rfl ?_
      refine mf_getr 12 6 dX12_goesTo_91 fl_X12_33 (by decide) (by decide) rfl (mo_o hM) (mo_r6 hM) (by decide) ?_
      refine mf_sipush (v := 221) dX12_goesTo_94 (by decide) ?_
      refine mf_iload_n 1 dX12_goesTo_97 rfl ?_
      refine mf_iadd dX12_goesTo_98 ?_
      refine mf_iald dX12_goesTo_99 (mo_a6 hM) (fun v6 => ?_)
      refine mf_jo1 (pj := 126) (lvj := fun w7 => [(0, .ref 218), (1, .int a1), (3, .int (v2 - 1)), (4, .int x3), (5, .int x4)]) (stj := fun w7 => [.int w7]) (fun w7 => ?_) (fun J126 hJ126 => ?_)
      · show MF rI (yX12_goesTo.cls, cX12_goesTo, 7, (some .int), yX12_goesTo.name, d + 2, 0, 0) 126 [(0, .ref 218), (1, .int a1), (3, .int (v2 - 1)), (4, .int x3), (5, .int x4)] [.int w7] q _
        refine mf_istore [(6, .int w7), (0, .ref 218), (1, .int a1), (3, .int (v2 - 1)), (4, .int x3), (5, .int x4)] dX12_goesTo_126 (Nat.le_of_ble_eq_true rfl) rfl ?_
        refine mf_iload 0 dX12_goesTo_128 rfl ?_
        refine mf_iload_n 3 dX12_goesTo_130 rfl ?_
        refine mf_icmp_eq (tgt := 137) dX12_goesTo_131 (by decide) ?_ ?_
        · refine mf_iconst (v := 1) dX12_goesTo_137 rfl ?_
          refine mf_istore [(4, .int 1), (6, .int w7), (0, .ref 218), (1, .int a1), (3, .int (v2 - 1)), (5, .int x4)] dX12_goesTo_138 (Nat.le_of_ble_eq_true rfl) rfl ?_
          refine mf_aload_n 2 dX12_goesTo_140 rfl ?_
          refine mf_getr 12 6 dX12_goesTo_141 fl_X12_33 (by decide) (by decide) rfl (mo_o hM) (mo_r6 hM) (by decide) ?_
          refine mf_bipush (v := 58) dX12_goesTo_144 (by decide) ?_
          refine mf_iload 5 dX12_goesTo_146 rfl ?_
          refine mf_iadd dX12_goesTo_148 ?_
          refine mf_iald dX12_goesTo_149 (mo_a6 hM) (fun v8 => ?_)
          refine mf_jo0 (pj := 189) (lvj := [(0, .ref 218), (1, .int a1), (5, .int x4)]) (stj := []) ?_ (fun J189 hJ189 => ?_)
          · show MF rI (yX12_goesTo.cls, cX12_goesTo, 7, (some .int), yX12_goesTo.name, d + 2, 0, 0) 189 [(0, .ref 218), (1, .int a1), (5, .int x4)] [] q _
            refine mf_aload_n 0 dX12_goesTo_189 rfl ?_
            refine mf_getr 12 6 dX12_goesTo_190 fl_X12_33 (by decide) (by decide) rfl (mo_o hM) (mo_r6 hM) (by decide) ?_
            refine mf_sipush (v := 221) dX12_goesTo_193 (by decide) ?_
            refine mf_iload_n 1 dX12_goesTo_196 rfl ?_
            refine mf_iadd dX12_goesTo_197 ?_
            refine mf_iald dX12_goesTo_198 (mo_a6 hM) (fun v9 => ?_)
            refine mf_if_ne (tgt := 215) dX12_goesTo_199 (by decide) ?_ ?_
            · refine mf_aload_n 0 dX12_goesTo_215 rfl ?_
              refine mf_getr 12 6 dX12_goesTo_216 fl_X12_33 (by decide) (by decide) rfl (mo_o hM) (mo_r6 hM) (by decide) ?_
              refine mf_bipush (v := 26) dX12_goesTo_219 (by decide) ?_
              refine mf_iload 2 dX12_goesTo_221 rfl ?_
              refine mf_iadd dX12_goesTo_223 ?_
              refine mf_iald dX12_goesTo_224 (mo_a6 hM) (fun v10 => ?_)
              exact mf_ireturn dX12_goesTo_225 rfl rfl ⟨rfl, rfl⟩
            · refine mf_aload_n 0 dX12_goesTo_202 rfl ?_
              refine mf_getr 12 6 dX12_goesTo_203 fl_X12_33 (by decide) (by decide) rfl (mo_o hM) (mo_r6 hM) (by decide) ?_
              refine mf_bipush (v := 42) dX12_goesTo_206 (by decide) ?_
              refine mf_iload 2 dX12_goesTo_208 rfl ?_
              refine mf_iadd dX12_goesTo_210 ?_
              refine mf_iald dX12_goesTo_211 (mo_a6 hM) (fun v11 => ?_)
              refine mf_goto (tgt := 225) dX12_goesTo_212 (by decide) ?_
              exact mf_ireturn dX12_goesTo_225 rfl rfl ⟨rfl, rfl⟩
          refine mf_if_eq (tgt := 189) dX12_goesTo_150 (by decide) ?_ ?_
          · refine mf_sub [2, 3, 5] rfl ?_
            exact hJ189
          · refine mf_aload_n 2 dX12_goesTo_153 rfl ?_
            refine mf_getr 12 6 dX12_goesTo_154 fl_X12_33 (by decide) (by decide) rfl (mo_o hM) (mo_r6 hM) (by decide) ?_
            refine mf_sipush (v := 228) dX12_goesTo_157 (by decide) ?_
            refine mf_iald dX12_goesTo_160 (mo_a6 hM) (fun v12 => ?_)
            refine mf_aload_n 2 dX12_goesTo_161 rfl ?_
            refine mf_getr 12 6 dX12_goesTo_162 fl_X12_33 (by decide) (by decide) rfl (mo_o hM) (mo_r6 hM) (by decide) ?_
            refine mf_bipush (v := 58) dX12_goesTo_165 (by decide) ?_
            refine mf_iload 5 dX12_goesTo_167 rfl ?_
            refine mf_iadd dX12_goesTo_169 ?_
            refine mf_iald dX12_goesTo_170 (mo_a6 hM) (fun v13 => ?_)
            refine mf_iconst (v := 1) dX12_goesTo_171 rfl ?_
            refine mf_isub dX12_goesTo_172 ?_
            refine mf_ishr dX12_goesTo_173 ?_
            refine mf_iconst (v := 1) dX12_goesTo_174 rfl ?_
            refine mf_iand dX12_goesTo_175 ?_
            refine mf_aload_n 2 dX12_goesTo_176 rfl ?_
            refine mf_getr 12 6 dX12_goesTo_177 fl_X12_33 (by decide) (by decide) rfl (mo_o hM) (mo_r6 hM) (by decide) ?_
            refine mf_bipush (v := 74) dX12_goesTo_180 (by decide) ?_
            refine mf_iload 5 dX12_goesTo_182 rfl ?_
            refine mf_iadd dX12_goesTo_184 ?_
            refine mf_iald dX12_goesTo_185 (mo_a6 hM) (fun v14 => ?_)
            refine mf_icmp_ne (tgt := 226) dX12_goesTo_186 (by decide) ?_ ?_
            · refine mf_iinc 5 (x4 + 1) [(5, .int (x4 + 1)), (4, .int 1), (6, .int w7), (0, .ref 218), (1, .int a1), (3, .int (v2 - 1))] dX12_goesTo_226 rfl rfl (Nat.le_of_ble_eq_true rfl) rfl ?_
              refine mf_goto (tgt := 79) dX12_goesTo_229 (by decide) ?_
              refine mf_sub [3, 4, 5, 1, 0] rfl ?_
              exact h79 _ _
            · refine mf_sub [2, 3, 5] rfl ?_
              exact hJ189
        · refine mf_goto (tgt := 226) dX12_goesTo_134 (by decide) ?_
          refine mf_iinc 5 (x4 + 1) [(5, .int (x4 + 1)), (6, .int w7), (0, .ref 218), (1, .int a1), (3, .int (v2 - 1)), (4, .int x3)] dX12_goesTo_226 rfl rfl (Nat.le_of_ble_eq_true rfl) rfl ?_
          refine mf_goto (tgt := 79) dX12_goesTo_229 (by decide) ?_
          refine mf_sub [2, 3, 4, 5, 0] rfl ?_
          exact h79 _ _
      refine mf_if_ne (tgt := 116) dX12_goesTo_100 (by decide) ?_ ?_
      · refine mf_aload_n 0 dX12_goesTo_116 rfl ?_
        refine mf_getr 12 6 dX12_goesTo_117 fl_X12_33 (by decide) (by decide) rfl (mo_o hM) (mo_r6 hM) (by decide) ?_
        refine mf_bipush (v := 42) dX12_goesTo_120 (by decide) ?_
        refine mf_iload 4 dX12_goesTo_122 rfl ?_
        refine mf_iadd dX12_goesTo_124 ?_
        refine mf_iald dX12_goesTo_125 (mo_a6 hM) (fun v15 => ?_)
        exact hJ126 _
      · refine mf_aload_n 0 dX12_goesTo_103 rfl ?_
        refine mf_getr 12 6 dX12_goesTo_104 fl_X12_33 (by decide) (by decide) rfl (mo_o hM) (mo_r6 hM) (by decide) ?_
        refine mf_bipush (v := 26) dX12_goesTo_107 (by decide) ?_
        refine mf_iload 4 dX12_goesTo_109 rfl ?_
        refine mf_iadd dX12_goesTo_111 ?_
        refine mf_iald dX12_goesTo_112 (mo_a6 hM) (fun v16 => ?_)
        refine mf_goto (tgt := 126) dX12_goesTo_113 (by decide) ?_
        exact hJ126 _
  · refine mf_aload_n 1 dX12_goesTo_10 rfl ?_
    refine mf_iload_n 0 dX12_goesTo_11 rfl ?_
    refine mf_cVi (rest := []) [.int v1] (aX12_setOf (d + 0) q hM v1) mY_X12_setOf dX12_goesTo_12 ml_X12_323 (mo_o hM) rfl rfl (Nat.le_of_ble_eq_true rfl) rfl (fun v17 => ?_)
    refine mf_istore_n [(3, .int v17), (2, .int v1), (0, .ref 218), (1, .int a1)] dX12_goesTo_15 (Nat.le_of_ble_eq_true rfl) rfl ?_
    refine mf_iload_n 0 dX12_goesTo_16 rfl ?_
    refine mf_if_ge (tgt := 23) dX12_goesTo_17 (by decide) ?_ ?_
    · refine mf_aload_n 2 dX12_goesTo_23 rfl ?_
      refine mf_getr 12 6 dX12_goesTo_24 fl_X12_33 (by decide) (by decide) rfl (mo_o hM) (mo_r6 hM) (by decide) ?_
      refine mf_sipush (v := 229) dX12_goesTo_27 (by decide) ?_
      refine mf_iload_n 0 dX12_goesTo_30 rfl ?_
      refine mf_iadd dX12_goesTo_31 ?_
      refine mf_iconst (v := 2) dX12_goesTo_32 rfl ?_
      refine mf_iast dX12_goesTo_33 (mo_a6 hM) ?_
      refine mf_aload_n 2 dX12_goesTo_34 rfl ?_
      refine mf_getr 12 6 dX12_goesTo_35 fl_X12_33 (by decide) (by decide) rfl (mo_o hM) (mo_r6 hM) (by decide) ?_
      refine mf_sipush (v := 249) dX12_goesTo_38 (by decide) ?_
      refine mf_iload_n 0 dX12_goesTo_41 rfl ?_
      refine mf_iadd dX12_goesTo_42 ?_
      refine mf_iload_n 3 dX12_goesTo_43 rfl ?_
      refine mf_iconst (v := 1) dX12_goesTo_44 rfl ?_
      refine mf_iadd dX12_goesTo_45 ?_
      refine mf_iast dX12_goesTo_46 (mo_a6 hM) ?_
      refine mf_aload_n 2 dX12_goesTo_47 rfl ?_
      refine mf_getr 12 6 dX12_goesTo_48 fl_X12_33 (by decide) (by decide) rfl (mo_o hM) (mo_r6 hM) (by decide) ?_
      refine mf_bipush (v := 126) dX12_goesTo_51 (by decide) ?_
      refine mf_bipush (v := 6) dX12_goesTo_53 (by decide) ?_
      refine mf_iload_n 0 dX12_goesTo_55 rfl ?_
      refine mf_imul dX12_goesTo_56 ?_
      refine mf_iadd dX12_goesTo_57 ?_
      refine mf_iald dX12_goesTo_58 (mo_a6 hM) (fun v18 => ?_)
      exact mf_ireturn dX12_goesTo_59 rfl rfl ⟨rfl, rfl⟩
    · refine mf_bipush (v := -2) dX12_goesTo_20 (by decide) ?_
      exact mf_ireturn dX12_goesTo_22 rfl rfl ⟨rfl, rfl⟩
set_option maxRecDepth 100000 in
set_option maxHeartbeats 4000000 in
theorem aX12_meets (d : Nat) (q : m_S) (hM : isM q) (a1 : Int32) (a2 : Int32) : AC rU yX12_meets cX12_meets 4 none (d + 1) [.ref 218, .int a1, .int a2] q (fX12_meets a1 a2) := by
  refine ac_of (by decide +kernel) (Nat.le_of_ble_eq_true rfl) ?_
  unfold fX12_meets
  show MF rU (yX12_meets.cls, cX12_meets, 4, none, yX12_meets.name, d + 1, 0, 0) 0 [(0, .ref 218), (1, .int a1), (2, .int a2)] [] q _
  refine mf_iconst (v := 0) dX12_meets_0 rfl ?_
  refine mf_istore_n [(3, .int 0), (0, .ref 218), (1, .int a1), (2, .int a2)] dX12_meets_1 (Nat.le_of_ble_eq_true rfl) rfl ?_
  refine mf_sub [1, 3, 0] rfl ?_
  refine mf_lz1 (lv := fun x1 => [(0, .ref 218), (2, .int a2), (3, .int x1)]) (fun L2 h2 x1 => ?_) _ _
  show MF rU (yX12_meets.cls, cX12_meets, 4, none, yX12_meets.name, d + 1, 0, 0) 2 [(0, .ref 218), (2, .int a2), (3, .int x1)] [] q _
  refine mf_iload_n 2 dX12_meets_2 rfl ?_
  refine mf_aload_n 0 dX12_meets_3 rfl ?_
  refine mf_getr 12 6 dX12_meets_4 fl_X12_33 (by decide) (by decide) rfl (mo_o hM) (mo_r6 hM) (by decide) ?_
  refine mf_bipush (v := 6) dX12_meets_7 (by decide) ?_
  refine mf_iald dX12_meets_9 (mo_a6 hM) (fun v2 => ?_)
  refine mf_icmp_ge (tgt := 49) dX12_meets_10 (by decide) ?_ ?_
  · refine mf_aload_n 0 dX12_meets_49 rfl ?_
    refine mf_getr 12 6 dX12_meets_50 fl_X12_33 (by decide) (by decide) rfl (mo_o hM) (mo_r6 hM) (by decide) ?_
    refine mf_sipush (v := 282) dX12_meets_53 (by decide) ?_
    refine mf_dup2 dX12_meets_56 rfl rfl ?_
    refine mf_iald dX12_meets_57 (mo_a6 hM) (fun v3 => ?_)
    refine mf_aload_n 0 dX12_meets_58 rfl ?_
    refine mf_getr 12 6 dX12_meets_59 fl_X12_33 (by decide) (by decide) rfl (mo_o hM) (mo_r6 hM) (by decide) ?_
    refine mf_sipush (v := 281) dX12_meets_62 (by decide) ?_
    refine mf_iald dX12_meets_65 (mo_a6 hM) (fun v4 => ?_)
    refine mf_iconst (v := -1) dX12_meets_66 rfl ?_
    refine mf_ixor dX12_meets_67 ?_
    refine mf_iand dX12_meets_68 ?_
    refine mf_iast dX12_meets_69 (mo_a6 hM) ?_
    refine mf_aload_n 0 dX12_meets_70 rfl ?_
    refine mf_getr 12 6 dX12_meets_71 fl_X12_33 (by decide) (by decide) rfl (mo_o hM) (mo_r6 hM) (by decide) ?_
    refine mf_sipush (v := 227) dX12_meets_74 (by decide) ?_
    refine mf_dup2 dX12_meets_77 rfl rfl ?_
    refine mf_iald dX12_meets_78 (mo_a6 hM) (fun v5 => ?_)
    refine mf_iconst (v := 1) dX12_meets_79 rfl ?_
    refine mf_iadd dX12_meets_80 ?_
    refine mf_iast dX12_meets_81 (mo_a6 hM) ?_
    exact mf_return dX12_meets_82 rfl ⟨rfl, rfl⟩
  · refine mf_aload_n 0 dX12_meets_13 rfl ?_
    refine mf_getr 12 6 dX12_meets_14 fl_X12_33 (by decide) (by decide) rfl (mo_o hM) (mo_r6 hM) (by decide) ?_
    refine mf_sipush (v := 271) dX12_meets_17 (by decide) ?_
    refine mf_iload_n 2 dX12_meets_20 rfl ?_
    refine mf_iadd dX12_meets_21 ?_
    refine mf_iald dX12_meets_22 (mo_a6 hM) (fun v6 => ?_)
    refine mf_iload_n 1 dX12_meets_23 rfl ?_
    refine mf_iconst (v := 1) dX12_meets_24 rfl ?_
    refine mf_iadd dX12_meets_25 ?_
    refine mf_icmp_ne (tgt := 43) dX12_meets_26 (by decide) ?_ ?_
    · refine mf_iinc 2 (x1 + 1) [(3, .int (x1 + 1)), (0, .ref 218), (2, .int a2)] dX12_meets_43 rfl rfl (Nat.le_of_ble_eq_true rfl) rfl ?_
      refine mf_goto (tgt := 2) dX12_meets_46 (by decide) ?_
      refine mf_sub [1, 2, 0] rfl ?_
      exact h2 _
    · refine mf_aload_n 0 dX12_meets_29 rfl ?_
      refine mf_getr 12 6 dX12_meets_30 fl_X12_33 (by decide) (by decide) rfl (mo_o hM) (mo_r6 hM) (by decide) ?_
      refine mf_sipush (v := 281) dX12_meets_33 (by decide) ?_
      refine mf_dup2 dX12_meets_36 rfl rfl ?_
      refine mf_iald dX12_meets_37 (mo_a6 hM) (fun v7 => ?_)
      refine mf_iconst (v := 1) dX12_meets_38 rfl ?_
      refine mf_iload_n 2 dX12_meets_39 rfl ?_
      refine mf_ishl dX12_meets_40 ?_
      refine mf_ior dX12_meets_41 ?_
      refine mf_iast dX12_meets_42 (mo_a6 hM) ?_
      refine mf_iinc 2 (x1 + 1) [(3, .int (x1 + 1)), (0, .ref 218), (2, .int a2)] dX12_meets_43 rfl rfl (Nat.le_of_ble_eq_true rfl) rfl ?_
      refine mf_goto (tgt := 2) dX12_meets_46 (by decide) ?_
      refine mf_sub [1, 2, 0] rfl ?_
      exact h2 _
set_option maxRecDepth 100000 in
set_option maxHeartbeats 4000000 in
theorem aX12_moves (d : Nat) (q : m_S) (hM : isM q) (a1 : Int32) : AC rU yX12_moves cX12_moves 5 none (d + 3) [.ref 218, .int a1] q (fX12_moves a1) := by
  refine ac_of (by decide +kernel) (Nat.le_of_ble_eq_true rfl) ?_
  unfold fX12_moves
  show MF rU (yX12_moves.cls, cX12_moves, 5, none, yX12_moves.name, d + 3, 0, 0) 0 [(0, .ref 218), (1, .int a1)] [] q _
  refine mf_aload_n 0 dX12_moves_0 rfl ?_
  refine mf_getr 12 6 dX12_moves_1 fl_X12_33 (by decide) (by decide) rfl (mo_o hM) (mo_r6 hM) (by decide) ?_
  refine mf_sipush (v := 282) dX12_moves_4 (by decide) ?_
  refine mf_dup2 dX12_moves_7 rfl rfl ?_
  refine mf_iald dX12_moves_8 (mo_a6 hM) (fun v1 => ?_)
  refine mf_iconst (v := 1) dX12_moves_9 rfl ?_
  refine mf_iload_n 1 dX12_moves_10 rfl ?_
  refine mf_ishl dX12_moves_11 ?_
  refine mf_iconst (v := -1) dX12_moves_12 rfl ?_
  refine mf_ixor dX12_moves_13 ?_
  refine mf_iand dX12_moves_14 ?_
  refine mf_iast dX12_moves_15 (mo_a6 hM) ?_
  refine mf_aload_n 0 dX12_moves_16 rfl ?_
  refine mf_getr 12 6 dX12_moves_17 fl_X12_33 (by decide) (by decide) rfl (mo_o hM) (mo_r6 hM) (by decide) ?_
  refine mf_sipush (v := 271) dX12_moves_20 (by decide) ?_
  refine mf_iload_n 1 dX12_moves_23 rfl ?_
  refine mf_iadd dX12_moves_24 ?_
  refine mf_iald dX12_moves_25 (mo_a6 hM) (fun v2 => ?_)
  refine mf_if_eq (tgt := 44) dX12_moves_26 (by decide) ?_ ?_
  · exact mf_return dX12_moves_44 rfl ⟨rfl, rfl⟩
  · refine mf_aload_n 0 dX12_moves_29 rfl ?_
    refine mf_getr 12 6 dX12_moves_30 fl_X12_33 (by decide) (by decide) rfl (mo_o hM) (mo_r6 hM) (by decide) ?_
    refine mf_sipush (v := 281) dX12_moves_33 (by decide) ?_
    refine mf_iald dX12_moves_36 (mo_a6 hM) (fun v3 => ?_)
    refine mf_iload_n 1 dX12_moves_37 rfl ?_
    refine mf_cSi (rest := []) [.int v3, .int a1] (aX12_bitOf (d + 1) q v3 a1) mY_X12_bitOf dX12_moves_38 ml_X12_280 rfl rfl (Nat.le_of_ble_eq_true rfl) rfl (fun v4 => ?_)
    refine mf_if_eq (tgt := 45) dX12_moves_41 (by decide) ?_ ?_
    · refine mf_aload_n 0 dX12_moves_45 rfl ?_
      refine mf_getr 12 6 dX12_moves_46 fl_X12_33 (by decide) (by decide) rfl (mo_o hM) (mo_r6 hM) (by decide) ?_
      refine mf_sipush (v := 276) dX12_moves_49 (by decide) ?_
      refine mf_iload_n 1 dX12_moves_52 rfl ?_
      refine mf_iadd dX12_moves_53 ?_
      refine mf_dup2 dX12_moves_54 rfl rfl ?_
      refine mf_iald dX12_moves_55 (mo_a6 hM) (fun v5 => ?_)
      refine mf_iconst (v := 1) dX12_moves_56 rfl ?_
      refine mf_iadd dX12_moves_57 ?_
      refine mf_iast dX12_moves_58 (mo_a6 hM) ?_
      refine mf_aload_n 0 dX12_moves_59 rfl ?_
      refine mf_getr 12 6 dX12_moves_60 fl_X12_33 (by decide) (by decide) rfl (mo_o hM) (mo_r6 hM) (by decide) ?_
      refine mf_sipush (v := 276) dX12_moves_63 (by decide) ?_
      refine mf_iload_n 1 dX12_moves_66 rfl ?_
      refine mf_iadd dX12_moves_67 ?_
      refine mf_iald dX12_moves_68 (mo_a6 hM) (fun v6 => ?_)
      refine mf_aload_n 0 dX12_moves_69 rfl ?_
      refine mf_getr 12 6 dX12_moves_70 fl_X12_33 (by decide) (by decide) rfl (mo_o hM) (mo_r6 hM) (by decide) ?_
      refine mf_bipush (v := 8) dX12_moves_73 (by decide) ?_
      refine mf_aload_n 0 dX12_moves_75 rfl ?_
      refine mf_getr 12 6 dX12_moves_76 fl_X12_33 (by decide) (by decide) rfl (mo_o hM) (mo_r6 hM) (by decide) ?_
      refine mf_sipush (v := 271) dX12_moves_79 (by decide) ?_
      refine mf_iload_n 1 dX12_moves_82 rfl ?_
      refine mf_iadd dX12_moves_83 ?_
      refine mf_iald dX12_moves_84 (mo_a6 hM) (fun v7 => ?_)
      refine mf_iadd dX12_moves_85 ?_
      refine mf_iconst (v := 1) dX12_moves_86 rfl ?_
      refine mf_isub dX12_moves_87 ?_
      refine mf_iald dX12_moves_88 (mo_a6 hM) (fun v8 => ?_)
      refine mf_icmp_ge (tgt := 93) dX12_moves_89 (by decide) ?_ ?_
      · refine mf_aload_n 0 dX12_moves_93 rfl ?_
        refine mf_iload_n 1 dX12_moves_94 rfl ?_
        refine mf_cVi (rest := []) [.int a1] (aX12_goesTo (d + 0) q hM a1) mY_X12_goesTo dX12_moves_95 ml_X12_363 (mo_o hM) rfl rfl (Nat.le_of_ble_eq_true rfl) rfl (fun v9 => ?_)
        refine mf_istore_n [(2, .int v9), (0, .ref 218), (1, .int a1)] dX12_moves_98 (Nat.le_of_ble_eq_true rfl) rfl ?_
        refine mf_iload_n 0 dX12_moves_99 rfl ?_
        refine mf_bipush (v := -2) dX12_moves_100 (by decide) ?_
        refine mf_icmp_ne (tgt := 134) dX12_moves_102 (by decide) ?_ ?_
        · refine mf_aload_n 1 dX12_moves_134 rfl ?_
          refine mf_getr 12 6 dX12_moves_135 fl_X12_33 (by decide) (by decide) rfl (mo_o hM) (mo_r6 hM) (by decide) ?_
          refine mf_sipush (v := 271) dX12_moves_138 (by decide) ?_
          refine mf_iload_n 2 dX12_moves_141 rfl ?_
          refine mf_iadd dX12_moves_142 ?_
          refine mf_iload_n 0 dX12_moves_143 rfl ?_
          refine mf_iconst (v := 1) dX12_moves_144 rfl ?_
          refine mf_iadd dX12_moves_145 ?_
          refine mf_iast dX12_moves_146 (mo_a6 hM) ?_
          refine mf_aload_n 1 dX12_moves_147 rfl ?_
          refine mf_getr 12 6 dX12_moves_148 fl_X12_33 (by decide) (by decide) rfl (mo_o hM) (mo_r6 hM) (by decide) ?_
          refine mf_sipush (v := 276) dX12_moves_151 (by decide) ?_
          refine mf_iload_n 2 dX12_moves_154 rfl ?_
          refine mf_iadd dX12_moves_155 ?_
          refine mf_iconst (v := 0) dX12_moves_156 rfl ?_
          refine mf_iast dX12_moves_157 (mo_a6 hM) ?_
          refine mf_iload_n 0 dX12_moves_158 rfl ?_
          refine mf_jo1 (pj := 172) (lvj := fun w10 => [(0, .ref 218), (1, .int a1), (2, .int v9)]) (stj := fun w10 => [.int w10]) (fun w10 => ?_) (fun J172 hJ172 => ?_)
          · show MF rU (yX12_moves.cls, cX12_moves, 5, none, yX12_moves.name, d + 3, 0, 0) 172 [(0, .ref 218), (1, .int a1), (2, .int v9)] [.int w10] q _
            refine mf_istore_n [(3, .int w10), (0, .ref 218), (1, .int a1), (2, .int v9)] dX12_moves_172 (Nat.le_of_ble_eq_true rfl) rfl ?_
            refine mf_iload_n 0 dX12_moves_173 rfl ?_
            refine mf_jo0 (pj := 183) (lvj := [(0, .ref 218), (1, .int a1), (2, .int v9)]) (stj := []) ?_ (fun J183 hJ183 => ?_)
            · show MF rU (yX12_moves.cls, cX12_moves, 5, none, yX12_moves.name, d + 3, 0, 0) 183 [(0, .ref 218), (1, .int a1), (2, .int v9)] [] q _
              refine mf_iconst (v := 0) dX12_moves_183 rfl ?_
              refine mf_istore [(4, .int 0), (0, .ref 218), (1, .int a1), (2, .int v9)] dX12_moves_184 (Nat.le_of_ble_eq_true rfl) rfl ?_
              refine mf_sub [1, 2, 3, 0] rfl ?_
              refine mf_lz1 (lv := fun x11 => [(0, .ref 218), (1, .int a1), (2, .int v9), (4, .int x11)]) (fun L186 h186 x11 => ?_) _ _
              show MF rU (yX12_moves.cls, cX12_moves, 5, none, yX12_moves.name, d + 3, 0, 0) 186 [(0, .ref 218), (1, .int a1), (2, .int v9), (4, .int x11)] [] q _
              refine mf_iload 3 dX12_moves_186 rfl ?_
              refine mf_aload_n 0 dX12_moves_188 rfl ?_
              refine mf_getr 12 6 dX12_moves_189 fl_X12_33 (by decide) (by decide) rfl (mo_o hM) (mo_r6 hM) (by decide) ?_
              refine mf_iconst (v := 4) dX12_moves_192 rfl ?_
              refine mf_iald dX12_moves_193 (mo_a6 hM) (fun v12 => ?_)
              refine mf_icmp_ge (tgt := 264) dX12_moves_194 (by decide) ?_ ?_
              · exact mf_return dX12_moves_264 rfl ⟨rfl, rfl⟩
              · refine mf_aload_n 0 dX12_moves_197 rfl ?_
                refine mf_getr 12 6 dX12_moves_198 fl_X12_33 (by decide) (by decide) rfl (mo_o hM) (mo_r6 hM) (by decide) ?_
                refine mf_sipush (v := 249) dX12_moves_201 (by decide) ?_
                refine mf_iload 3 dX12_moves_204 rfl ?_
                refine mf_iadd dX12_moves_206 ?_
                refine mf_iald dX12_moves_207 (mo_a6 hM) (fun v13 => ?_)
                refine mf_iload_n 1 dX12_moves_208 rfl ?_
                refine mf_iconst (v := 1) dX12_moves_209 rfl ?_
                refine mf_iadd dX12_moves_210 ?_
                refine mf_icmp_ne (tgt := 258) dX12_moves_211 (by decide) ?_ ?_
                · refine mf_iinc 3 (x11 + 1) [(4, .int (x11 + 1)), (0, .ref 218), (1, .int a1), (2, .int v9)] dX12_moves_258 rfl rfl (Nat.le_of_ble_eq_true rfl) rfl ?_
                  refine mf_goto (tgt := 186) dX12_moves_261 (by decide) ?_
                  refine mf_sub [1, 2, 3, 0] rfl ?_
                  exact h186 _
                · refine mf_iload_n 2 dX12_moves_214 rfl ?_
                  refine mf_jo0 (pj := 234) (lvj := [(0, .ref 218), (1, .int a1), (2, .int v9), (4, .int x11)]) (stj := []) ?_ (fun J234 hJ234 => ?_)
                  · show MF rU (yX12_moves.cls, cX12_moves, 5, none, yX12_moves.name, d + 3, 0, 0) 234 [(0, .ref 218), (1, .int a1), (2, .int v9), (4, .int x11)] [] q _
                    refine mf_aload_n 0 dX12_moves_234 rfl ?_
                    refine mf_getr 12 6 dX12_moves_235 fl_X12_33 (by decide) (by decide) rfl (mo_o hM) (mo_r6 hM) (by decide) ?_
                    refine mf_sipush (v := 229) dX12_moves_238 (by decide) ?_
                    refine mf_iload 3 dX12_moves_241 rfl ?_
                    refine mf_iadd dX12_moves_243 ?_
                    refine mf_iconst (v := 0) dX12_moves_244 rfl ?_
                    refine mf_iast dX12_moves_245 (mo_a6 hM) ?_
                    refine mf_aload_n 0 dX12_moves_246 rfl ?_
                    refine mf_getr 12 6 dX12_moves_247 fl_X12_33 (by decide) (by decide) rfl (mo_o hM) (mo_r6 hM) (by decide) ?_
                    refine mf_sipush (v := 249) dX12_moves_250 (by decide) ?_
                    refine mf_iload 3 dX12_moves_253 rfl ?_
                    refine mf_iadd dX12_moves_255 ?_
                    refine mf_iconst (v := 0) dX12_moves_256 rfl ?_
                    refine mf_iast dX12_moves_257 (mo_a6 hM) ?_
                    refine mf_iinc 3 (x11 + 1) [(4, .int (x11 + 1)), (0, .ref 218), (1, .int a1), (2, .int v9)] dX12_moves_258 rfl rfl (Nat.le_of_ble_eq_true rfl) rfl ?_
                    refine mf_goto (tgt := 186) dX12_moves_261 (by decide) ?_
                    refine mf_sub [1, 2, 3, 0] rfl ?_
                    exact h186 _
                  refine mf_if_lt (tgt := 234) dX12_moves_215 (by decide) ?_ ?_
                  · exact hJ234
                  · refine mf_aload_n 0 dX12_moves_218 rfl ?_
                    refine mf_iload 3 dX12_moves_219 rfl ?_
                    refine mf_cVi (rest := []) [.int x11] (aX12_sectionsOf (d + 1) q hM x11) mY_X12_sectionsOf dX12_moves_221 ml_X12_304 (mo_o hM) rfl rfl (Nat.le_of_ble_eq_true rfl) rfl (fun v14 => ?_)
                    refine mf_iload_n 2 dX12_moves_224 rfl ?_
                    refine mf_cSi (rest := []) [.int v14, .int v9] (aX12_bitOf (d + 1) q v14 v9) mY_X12_bitOf dX12_moves_225 ml_X12_280 rfl rfl (Nat.le_of_ble_eq_true rfl) rfl (fun v15 => ?_)
                    refine mf_if_eq (tgt := 234) dX12_moves_228 (by decide) ?_ ?_
                    · exact hJ234
                    · refine mf_goto (tgt := 258) dX12_moves_231 (by decide) ?_
                      refine mf_iinc 3 (x11 + 1) [(4, .int (x11 + 1)), (0, .ref 218), (1, .int a1), (2, .int v9)] dX12_moves_258 rfl rfl (Nat.le_of_ble_eq_true rfl) rfl ?_
                      refine mf_goto (tgt := 186) dX12_moves_261 (by decide) ?_
                      refine mf_sub [1, 2, 3, 0] rfl ?_
                      exact h186 _
            refine mf_if_lt (tgt := 183) dX12_moves_174 (by decide) ?_ ?_
            · refine mf_sub [1, 2, 3] rfl ?_
              exact hJ183
            · refine mf_aload_n 1 dX12_moves_177 rfl ?_
              refine mf_iload_n 2 dX12_moves_178 rfl ?_
              refine mf_iload_n 3 dX12_moves_179 rfl ?_
              refine mf_cVv (rest := []) [.int a1, .int v9] (aX12_meets (d + 1) q hM a1 v9) mY_X12_meets dX12_moves_180 ml_X12_366 (mo_o hM) rfl rfl (Nat.le_of_ble_eq_true rfl) rfl (fun _ => ?_)
              refine mf_sub [1, 2, 3] rfl ?_
              exact hJ183
          refine mf_if_ge (tgt := 166) dX12_moves_159 (by decide) ?_ ?_
          · refine mf_aload_n 1 dX12_moves_166 rfl ?_
            refine mf_iload_n 0 dX12_moves_167 rfl ?_
            refine mf_iload_n 2 dX12_moves_168 rfl ?_
            refine mf_cVi (rest := []) [.int v9, .int a1] (aX12_trainIn (d + 1) q hM v9 a1) mY_X12_trainIn dX12_moves_169 ml_X12_298 (mo_o hM) rfl rfl (Nat.le_of_ble_eq_true rfl) rfl (fun v16 => ?_)
            refine mf_sub [1, 2, 0] rfl ?_
            exact hJ172 _
          · refine mf_iconst (v := -1) dX12_moves_162 rfl ?_
            refine mf_goto (tgt := 172) dX12_moves_163 (by decide) ?_
            refine mf_sub [1, 2, 0] rfl ?_
            exact hJ172 _
        · refine mf_aload_n 1 dX12_moves_105 rfl ?_
          refine mf_getr 12 6 dX12_moves_106 fl_X12_33 (by decide) (by decide) rfl (mo_o hM) (mo_r6 hM) (by decide) ?_
          refine mf_sipush (v := 282) dX12_moves_109 (by decide) ?_
          refine mf_dup2 dX12_moves_112 rfl rfl ?_
          refine mf_iald dX12_moves_113 (mo_a6 hM) (fun v17 => ?_)
          refine mf_iconst (v := 1) dX12_moves_114 rfl ?_
          refine mf_iload_n 2 dX12_moves_115 rfl ?_
          refine mf_ishl dX12_moves_116 ?_
          refine mf_ior dX12_moves_117 ?_
          refine mf_iast dX12_moves_118 (mo_a6 hM) ?_
          refine mf_aload_n 1 dX12_moves_119 rfl ?_
          refine mf_getr 12 6 dX12_moves_120 fl_X12_33 (by decide) (by decide) rfl (mo_o hM) (mo_r6 hM) (by decide) ?_
          refine mf_sipush (v := 283) dX12_moves_123 (by decide) ?_
          refine mf_iload_n 2 dX12_moves_126 rfl ?_
          refine mf_iadd dX12_moves_127 ?_
          refine mf_dup2 dX12_moves_128 rfl rfl ?_
          refine mf_iald dX12_moves_129 (mo_a6 hM) (fun v18 => ?_)
          refine mf_iconst (v := 1) dX12_moves_130 rfl ?_
          refine mf_iadd dX12_moves_131 ?_
          refine mf_iast dX12_moves_132 (mo_a6 hM) ?_
          exact mf_return dX12_moves_133 rfl ⟨rfl, rfl⟩
      · exact mf_return dX12_moves_92 rfl ⟨rfl, rfl⟩
    · exact mf_return dX12_moves_44 rfl ⟨rfl, rfl⟩
set_option maxRecDepth 100000 in
set_option maxHeartbeats 4000000 in
theorem aX12_tick (d : Nat) (q : m_S) (hM : isM q)  : AC rI yX12_tick cX12_tick 3 (some .boolean) (d + 4) [.ref 218] q (fX12_tick ) := by
  refine ac_of (by decide +kernel) (Nat.le_of_ble_eq_true rfl) ?_
  unfold fX12_tick
  show MF rI (yX12_tick.cls, cX12_tick, 3, (some .boolean), yX12_tick.name, d + 4, 0, 0) 0 [(0, .ref 218)] [] q _
  refine mf_aload_n 0 dX12_tick_0 rfl ?_
  refine mf_getr 12 6 dX12_tick_1 fl_X12_33 (by decide) (by decide) rfl (mo_o hM) (mo_r6 hM) (by decide) ?_
  refine mf_sipush (v := 227) dX12_tick_4 (by decide) ?_
  refine mf_iald dX12_tick_7 (mo_a6 hM) (fun v1 => ?_)
  refine mf_istore_n [(1, .int v1), (0, .ref 218)] dX12_tick_8 (Nat.le_of_ble_eq_true rfl) rfl ?_
  refine mf_iconst (v := 0) dX12_tick_9 rfl ?_
  refine mf_istore_n [(2, .int 0), (1, .int v1), (0, .ref 218)] dX12_tick_10 (Nat.le_of_ble_eq_true rfl) rfl ?_
  refine mf_sub [2, 1, 0] rfl ?_
  refine mf_lz1 (lv := fun x2 => [(0, .ref 218), (1, .int v1), (2, .int x2)]) (fun L11 h11 x2 => ?_) _ _
  show MF rI (yX12_tick.cls, cX12_tick, 3, (some .boolean), yX12_tick.name, d + 4, 0, 0) 11 [(0, .ref 218), (1, .int v1), (2, .int x2)] [] q _
  refine mf_iload_n 2 dX12_tick_11 rfl ?_
  refine mf_aload_n 0 dX12_tick_12 rfl ?_
  refine mf_getr 12 6 dX12_tick_13 fl_X12_33 (by decide) (by decide) rfl (mo_o hM) (mo_r6 hM) (by decide) ?_
  refine mf_bipush (v := 6) dX12_tick_16 (by decide) ?_
  refine mf_iald dX12_tick_18 (mo_a6 hM) (fun v3 => ?_)
  refine mf_icmp_ge (tgt := 33) dX12_tick_19 (by decide) ?_ ?_
  · refine mf_iconst (v := 0) dX12_tick_33 rfl ?_
    refine mf_istore_n [(2, .int 0), (0, .ref 218), (1, .int v1)] dX12_tick_34 (Nat.le_of_ble_eq_true rfl) rfl ?_
    refine mf_sub [1, 2, 0] rfl ?_
    refine mf_lz1 (lv := fun x4 => [(0, .ref 218), (1, .int v1), (2, .int x4)]) (fun L35 h35 x4 => ?_) _ _
    show MF rI (yX12_tick.cls, cX12_tick, 3, (some .boolean), yX12_tick.name, d + 4, 0, 0) 35 [(0, .ref 218), (1, .int v1), (2, .int x4)] [] q _
    refine mf_iload_n 2 dX12_tick_35 rfl ?_
    refine mf_aload_n 0 dX12_tick_36 rfl ?_
    refine mf_getr 12 6 dX12_tick_37 fl_X12_33 (by decide) (by decide) rfl (mo_o hM) (mo_r6 hM) (by decide) ?_
    refine mf_iconst (v := 4) dX12_tick_40 rfl ?_
    refine mf_iald dX12_tick_41 (mo_a6 hM) (fun v5 => ?_)
    refine mf_icmp_ge (tgt := 106) dX12_tick_42 (by decide) ?_ ?_
    · refine mf_aload_n 0 dX12_tick_106 rfl ?_
      refine mf_getr 12 6 dX12_tick_107 fl_X12_33 (by decide) (by decide) rfl (mo_o hM) (mo_r6 hM) (by decide) ?_
      refine mf_sipush (v := 226) dX12_tick_110 (by decide) ?_
      refine mf_dup2 dX12_tick_113 rfl rfl ?_
      refine mf_iald dX12_tick_114 (mo_a6 hM) (fun v6 => ?_)
      refine mf_iconst (v := 1) dX12_tick_115 rfl ?_
      refine mf_iadd dX12_tick_116 ?_
      refine mf_iast dX12_tick_117 (mo_a6 hM) ?_
      refine mf_aload_n 0 dX12_tick_118 rfl ?_
      refine mf_getr 12 6 dX12_tick_119 fl_X12_33 (by decide) (by decide) rfl (mo_o hM) (mo_r6 hM) (by decide) ?_
      refine mf_sipush (v := 227) dX12_tick_122 (by decide) ?_
      refine mf_iald dX12_tick_125 (mo_a6 hM) (fun v7 => ?_)
      refine mf_iload_n 1 dX12_tick_126 rfl ?_
      refine mf_icmp_le (tgt := 134) dX12_tick_127 (by decide) ?_ ?_
      · refine mf_iconst (v := 0) dX12_tick_134 rfl ?_
        exact mf_ireturn dX12_tick_135 rfl rfl ⟨rfl, rfl⟩
      · refine mf_iconst (v := 1) dX12_tick_130 rfl ?_
        refine mf_goto (tgt := 135) dX12_tick_131 (by decide) ?_
        exact mf_ireturn dX12_tick_135 rfl rfl ⟨rfl, rfl⟩
    · refine mf_aload_n 0 dX12_tick_45 rfl ?_
      refine mf_getr 12 6 dX12_tick_46 fl_X12_33 (by decide) (by decide) rfl (mo_o hM) (mo_r6 hM) (by decide) ?_
      refine mf_sipush (v := 229) dX12_tick_49 (by decide) ?_
      refine mf_iload_n 2 dX12_tick_52 rfl ?_
      refine mf_iadd dX12_tick_53 ?_
      refine mf_iald dX12_tick_54 (mo_a6 hM) (fun v8 => ?_)
      refine mf_iconst (v := 3) dX12_tick_55 rfl ?_
      refine mf_icmp_eq (tgt := 62) dX12_tick_56 (by decide) ?_ ?_
      · refine mf_aload_n 0 dX12_tick_62 rfl ?_
        refine mf_getr 12 6 dX12_tick_63 fl_X12_33 (by decide) (by decide) rfl (mo_o hM) (mo_r6 hM) (by decide) ?_
        refine mf_sipush (v := 239) dX12_tick_66 (by decide) ?_
        refine mf_iload_n 2 dX12_tick_69 rfl ?_
        refine mf_iadd dX12_tick_70 ?_
        refine mf_dup2 dX12_tick_71 rfl rfl ?_
        refine mf_iald dX12_tick_72 (mo_a6 hM) (fun v9 => ?_)
        refine mf_iconst (v := 1) dX12_tick_73 rfl ?_
        refine mf_isub dX12_tick_74 ?_
        refine mf_iast dX12_tick_75 (mo_a6 hM) ?_
        refine mf_aload_n 0 dX12_tick_76 rfl ?_
        refine mf_getr 12 6 dX12_tick_77 fl_X12_33 (by decide) (by decide) rfl (mo_o hM) (mo_r6 hM) (by decide) ?_
        refine mf_sipush (v := 239) dX12_tick_80 (by decide) ?_
        refine mf_iload_n 2 dX12_tick_83 rfl ?_
        refine mf_iadd dX12_tick_84 ?_
        refine mf_iald dX12_tick_85 (mo_a6 hM) (fun v10 => ?_)
        refine mf_if_ne (tgt := 100) dX12_tick_86 (by decide) ?_ ?_
        · refine mf_iinc 2 (x4 + 1) [(2, .int (x4 + 1)), (0, .ref 218), (1, .int v1)] dX12_tick_100 rfl rfl (Nat.le_of_ble_eq_true rfl) rfl ?_
          refine mf_goto (tgt := 35) dX12_tick_103 (by decide) ?_
          refine mf_sub [1, 2, 0] rfl ?_
          exact h35 _
        · refine mf_aload_n 0 dX12_tick_89 rfl ?_
          refine mf_getr 12 6 dX12_tick_90 fl_X12_33 (by decide) (by decide) rfl (mo_o hM) (mo_r6 hM) (by decide) ?_
          refine mf_sipush (v := 229) dX12_tick_93 (by decide) ?_
          refine mf_iload_n 2 dX12_tick_96 rfl ?_
          refine mf_iadd dX12_tick_97 ?_
          refine mf_iconst (v := 0) dX12_tick_98 rfl ?_
          refine mf_iast dX12_tick_99 (mo_a6 hM) ?_
          refine mf_iinc 2 (x4 + 1) [(2, .int (x4 + 1)), (0, .ref 218), (1, .int v1)] dX12_tick_100 rfl rfl (Nat.le_of_ble_eq_true rfl) rfl ?_
          refine mf_goto (tgt := 35) dX12_tick_103 (by decide) ?_
          refine mf_sub [1, 2, 0] rfl ?_
          exact h35 _
      · refine mf_goto (tgt := 100) dX12_tick_59 (by decide) ?_
        refine mf_iinc 2 (x4 + 1) [(2, .int (x4 + 1)), (0, .ref 218), (1, .int v1)] dX12_tick_100 rfl rfl (Nat.le_of_ble_eq_true rfl) rfl ?_
        refine mf_goto (tgt := 35) dX12_tick_103 (by decide) ?_
        refine mf_sub [1, 2, 0] rfl ?_
        exact h35 _
  · refine mf_aload_n 0 dX12_tick_22 rfl ?_
    refine mf_iload_n 2 dX12_tick_23 rfl ?_
    refine mf_cVv (rest := []) [.int x2] (aX12_moves (d + 0) q hM x2) mY_X12_moves dX12_tick_24 ml_X12_370 (mo_o hM) rfl rfl (Nat.le_of_ble_eq_true rfl) rfl (fun _ => ?_)
    refine mf_iinc 2 (x2 + 1) [(2, .int (x2 + 1)), (0, .ref 218), (1, .int v1)] dX12_tick_27 rfl rfl (Nat.le_of_ble_eq_true rfl) rfl ?_
    refine mf_goto (tgt := 11) dX12_tick_30 (by decide) ?_
    refine mf_sub [1, 2, 0] rfl ?_
    exact h11 _
set_option maxRecDepth 100000 in
set_option maxHeartbeats 4000000 in
theorem aX12_goesOn (d : Nat) (q : m_S) (hM : isM q) (a1 : Int32) : AC rI yX12_goesOn cX12_goesOn 3 (some .int) (d + 5) [.ref 218, .int a1] q (fX12_goesOn a1) := by
  refine ac_of (by decide +kernel) (Nat.le_of_ble_eq_true rfl) ?_
  unfold fX12_goesOn
  show MF rI (yX12_goesOn.cls, cX12_goesOn, 3, (some .int), yX12_goesOn.name, d + 5, 0, 0) 0 [(0, .ref 218), (1, .int a1)] [] q _
  refine mf_iconst (v := 0) dX12_goesOn_0 rfl ?_
  refine mf_istore_n [(2, .int 0), (0, .ref 218), (1, .int a1)] dX12_goesOn_1 (Nat.le_of_ble_eq_true rfl) rfl ?_
  refine mf_sub [1, 2, 0] rfl ?_
  refine mf_lz1 (lv := fun x1 => [(0, .ref 218), (1, .int a1), (2, .int x1)]) (fun L2 h2 x1 => ?_) _ _
  show MF rI (yX12_goesOn.cls, cX12_goesOn, 3, (some .int), yX12_goesOn.name, d + 5, 0, 0) 2 [(0, .ref 218), (1, .int a1), (2, .int x1)] [] q _
  refine mf_iload_n 2 dX12_goesOn_2 rfl ?_
  refine mf_iload_n 1 dX12_goesOn_3 rfl ?_
  refine mf_icmp_ge (tgt := 32) dX12_goesOn_4 (by decide) ?_ ?_
  · refine mf_iload_n 2 dX12_goesOn_32 rfl ?_
    exact mf_ireturn dX12_goesOn_33 rfl rfl ⟨rfl, rfl⟩
  · refine mf_aload_n 0 dX12_goesOn_7 rfl ?_
    refine mf_getr 12 6 dX12_goesOn_8 fl_X12_33 (by decide) (by decide) rfl (mo_o hM) (mo_r6 hM) (by decide) ?_
    refine mf_sipush (v := 226) dX12_goesOn_11 (by decide) ?_
    refine mf_iald dX12_goesOn_14 (mo_a6 hM) (fun v2 => ?_)
    refine mf_sipush (v := 1000) dX12_goesOn_15 (by decide) ?_
    refine mf_icmp_ge (tgt := 32) dX12_goesOn_18 (by decide) ?_ ?_
    · refine mf_iload_n 2 dX12_goesOn_32 rfl ?_
      exact mf_ireturn dX12_goesOn_33 rfl rfl ⟨rfl, rfl⟩
    · refine mf_aload_n 0 dX12_goesOn_21 rfl ?_
      refine mf_cVi (rest := []) [] (aX12_tick (d + 0) q hM) mY_X12_tick dX12_goesOn_22 ml_X12_373 (mo_o hM) rfl rfl (Nat.le_of_ble_eq_true rfl) rfl (fun v3 => ?_)
      refine mf_pop dX12_goesOn_25 rfl ?_
      refine mf_iinc 2 (x1 + 1) [(2, .int (x1 + 1)), (0, .ref 218), (1, .int a1)] dX12_goesOn_26 rfl rfl (Nat.le_of_ble_eq_true rfl) rfl ?_
      refine mf_goto (tgt := 2) dX12_goesOn_29 (by decide) ?_
      refine mf_sub [1, 2, 0] rfl ?_
      exact h2 _
set_option maxRecDepth 100000 in
set_option maxHeartbeats 4000000 in
theorem aX12_stores (d : Nat) (q : m_S) (hM : isM q)  : AC rU yX12_stores cX12_stores 2 none (d + 1) [.ref 218] q (fX12_stores ) := by
  refine ac_of (by decide +kernel) (Nat.le_of_ble_eq_true rfl) ?_
  unfold fX12_stores
  show MF rU (yX12_stores.cls, cX12_stores, 2, none, yX12_stores.name, d + 1, 0, 0) 0 [(0, .ref 218)] [] q _
  refine mf_aload_n 0 dX12_stores_0 rfl ?_
  refine mf_geti 12 23 dX12_stores_1 fl_X12_295 (by decide) (by decide) rfl (mo_o hM) (fun v1 => ?_)
  refine mf_bipush (v := 8) dX12_stores_4 (by decide) ?_
  refine mf_jo0 (pj := 45) (lvj := [(0, .ref 218)]) (stj := []) ?_ (fun J45 hJ45 => ?_)
  · show MF rU (yX12_stores.cls, cX12_stores, 2, none, yX12_stores.name, d + 1, 0, 0) 45 [(0, .ref 218)] [] q _
    refine mf_iconst (v := 0) dX12_stores_45 rfl ?_
    refine mf_istore_n [(1, .int 0), (0, .ref 218)] dX12_stores_46 (Nat.le_of_ble_eq_true rfl) rfl ?_
    refine mf_sub [1, 0] rfl ?_
    refine mf_lz1 (lv := fun x2 => [(0, .ref 218), (1, .int x2)]) (fun L47 h47 x2 => ?_) _ _
    show MF rU (yX12_stores.cls, cX12_stores, 2, none, yX12_stores.name, d + 1, 0, 0) 47 [(0, .ref 218), (1, .int x2)] [] q _
    refine mf_iload_n 1 dX12_stores_47 rfl ?_
    refine mf_bipush (v := 62) dX12_stores_48 (by decide) ?_
    refine mf_icmp_ge (tgt := 83) dX12_stores_50 (by decide) ?_ ?_
    · refine mf_aload_n 0 dX12_stores_83 rfl ?_
      refine mf_dup dX12_stores_84 rfl ?_
      refine mf_geti 12 23 dX12_stores_85 fl_X12_295 (by decide) (by decide) rfl (mo_o hM) (fun v3 => ?_)
      refine mf_iconst (v := 1) dX12_stores_88 rfl ?_
      refine mf_iadd dX12_stores_89 ?_
      refine mf_puti 12 23 dX12_stores_90 fl_X12_295 (by decide) (by decide) rfl rfl (mo_o hM) ?_
      exact mf_return dX12_stores_93 rfl ⟨rfl, rfl⟩
    · refine mf_aload_n 0 dX12_stores_53 rfl ?_
      refine mf_getr 12 21 dX12_stores_54 fl_X12_50 (by decide) (by decide) rfl (mo_o hM) (mo_r21 hM) (by decide) ?_
      refine mf_bipush (v := 62) dX12_stores_57 (by decide) ?_
      refine mf_aload_n 0 dX12_stores_59 rfl ?_
      refine mf_geti 12 23 dX12_stores_60 fl_X12_295 (by decide) (by decide) rfl (mo_o hM) (fun v4 => ?_)
      refine mf_imul dX12_stores_63 ?_
      refine mf_iload_n 1 dX12_stores_64 rfl ?_
      refine mf_iadd dX12_stores_65 ?_
      refine mf_aload_n 0 dX12_stores_66 rfl ?_
      refine mf_getr 12 6 dX12_stores_67 fl_X12_33 (by decide) (by decide) rfl (mo_o hM) (mo_r6 hM) (by decide) ?_
      refine mf_sipush (v := 226) dX12_stores_70 (by decide) ?_
      refine mf_iload_n 1 dX12_stores_73 rfl ?_
      refine mf_iadd dX12_stores_74 ?_
      refine mf_iald dX12_stores_75 (mo_a6 hM) (fun v5 => ?_)
      refine mf_iast dX12_stores_76 (mo_a21 hM) ?_
      refine mf_iinc 1 (x2 + 1) [(1, .int (x2 + 1)), (0, .ref 218)] dX12_stores_77 rfl rfl (Nat.le_of_ble_eq_true rfl) rfl ?_
      refine mf_goto (tgt := 47) dX12_stores_80 (by decide) ?_
      refine mf_sub [1, 0] rfl ?_
      exact h47 _
  refine mf_icmp_ne (tgt := 45) dX12_stores_6 (by decide) ?_ ?_
  · exact hJ45
  · refine mf_iconst (v := 0) dX12_stores_9 rfl ?_
    refine mf_istore_n [(1, .int 0), (0, .ref 218)] dX12_stores_10 (Nat.le_of_ble_eq_true rfl) rfl ?_
    refine mf_sub [1, 0] rfl ?_
    refine mf_lz1 (lv := fun x6 => [(0, .ref 218), (1, .int x6)]) (fun L11 h11 x6 => ?_) _ _
    show MF rU (yX12_stores.cls, cX12_stores, 2, none, yX12_stores.name, d + 1, 0, 0) 11 [(0, .ref 218), (1, .int x6)] [] q _
    refine mf_iload_n 1 dX12_stores_11 rfl ?_
    refine mf_sipush (v := 434) dX12_stores_12 (by decide) ?_
    refine mf_icmp_ge (tgt := 39) dX12_stores_15 (by decide) ?_ ?_
    · refine mf_aload_n 0 dX12_stores_39 rfl ?_
      refine mf_bipush (v := 7) dX12_stores_40 (by decide) ?_
      refine mf_puti 12 23 dX12_stores_42 fl_X12_295 (by decide) (by decide) rfl rfl (mo_o hM) ?_
      refine mf_sub [0] rfl ?_
      exact hJ45
    · refine mf_aload_n 0 dX12_stores_18 rfl ?_
      refine mf_getr 12 21 dX12_stores_19 fl_X12_50 (by decide) (by decide) rfl (mo_o hM) (mo_r21 hM) (by decide) ?_
      refine mf_iload_n 1 dX12_stores_22 rfl ?_
      refine mf_aload_n 0 dX12_stores_23 rfl ?_
      refine mf_getr 12 21 dX12_stores_24 fl_X12_50 (by decide) (by decide) rfl (mo_o hM) (mo_r21 hM) (by decide) ?_
      refine mf_iload_n 1 dX12_stores_27 rfl ?_
      refine mf_bipush (v := 62) dX12_stores_28 (by decide) ?_
      refine mf_iadd dX12_stores_30 ?_
      refine mf_iald dX12_stores_31 (mo_a21 hM) (fun v7 => ?_)
      refine mf_iast dX12_stores_32 (mo_a21 hM) ?_
      refine mf_iinc 1 (x6 + 1) [(1, .int (x6 + 1)), (0, .ref 218)] dX12_stores_33 rfl rfl (Nat.le_of_ble_eq_true rfl) rfl ?_
      refine mf_goto (tgt := 11) dX12_stores_36 (by decide) ?_
      refine mf_sub [1, 0] rfl ?_
      exact h11 _
set_option maxRecDepth 100000 in
set_option maxHeartbeats 4000000 in
theorem aX12_set (d : Nat) (q : m_S) (hM : isM q) (a1 : Int32) : AC rI yX12_set cX12_set 3 (some .int) (d + 6) [.ref 218, .int a1] q (fX12_set a1) := by
  refine ac_of (by decide +kernel) (Nat.le_of_ble_eq_true rfl) ?_
  unfold fX12_set
  show MF rI (yX12_set.cls, cX12_set, 3, (some .int), yX12_set.name, d + 6, 0, 0) 0 [(0, .ref 218), (1, .int a1)] [] q _
  refine mf_aload_n 0 dX12_set_0 rfl ?_
  refine mf_iconst (v := 0) dX12_set_1 rfl ?_
  refine mf_puti 12 0 dX12_set_2 fl_X12_1 (by decide) (by decide) rfl rfl (mo_o hM) ?_
  refine mf_aload_n 0 dX12_set_5 rfl ?_
  refine mf_iload_n 1 dX12_set_6 rfl ?_
  refine mf_cVi (rest := []) [.int a1] (aX12_isRoute (d + 3) q hM a1) mY_X12_isRoute dX12_set_7 ml_X12_329 (mo_o hM) rfl rfl (Nat.le_of_ble_eq_true rfl) rfl (fun v1 => ?_)
  refine mf_if_ne (tgt := 15) dX12_set_10 (by decide) ?_ ?_
  · refine mf_aload_n 0 dX12_set_15 rfl ?_
    refine mf_iload_n 1 dX12_set_16 rfl ?_
    refine mf_cVi (rest := []) [.int a1] (aX12_whySet (d + 0) q hM a1) mY_X12_whySet dX12_set_17 ml_X12_376 (mo_o hM) rfl rfl (Nat.le_of_ble_eq_true rfl) rfl (fun v2 => ?_)
    refine mf_istore_n [(2, .int v2), (0, .ref 218), (1, .int a1)] dX12_set_20 (Nat.le_of_ble_eq_true rfl) rfl ?_
    refine mf_iload_n 0 dX12_set_21 rfl ?_
    refine mf_if_le (tgt := 27) dX12_set_22 (by decide) ?_ ?_
    · refine mf_aload_n 1 dX12_set_27 rfl ?_
      refine mf_cVv (rest := []) [] (aX12_stores (d + 4) q hM) mY_X12_stores dX12_set_28 ml_X12_379 (mo_o hM) rfl rfl (Nat.le_of_ble_eq_true rfl) rfl (fun _ => ?_)
      refine mf_aload_n 1 dX12_set_31 rfl ?_
      refine mf_getr 12 6 dX12_set_32 fl_X12_33 (by decide) (by decide) rfl (mo_o hM) (mo_r6 hM) (by decide) ?_
      refine mf_sipush (v := 229) dX12_set_35 (by decide) ?_
      refine mf_iload_n 2 dX12_set_38 rfl ?_
      refine mf_iadd dX12_set_39 ?_
      refine mf_iconst (v := 1) dX12_set_40 rfl ?_
      refine mf_iast dX12_set_41 (mo_a6 hM) ?_
      refine mf_iconst (v := 0) dX12_set_42 rfl ?_
      exact mf_ireturn dX12_set_43 rfl rfl ⟨rfl, rfl⟩
    · refine mf_iload_n 0 dX12_set_25 rfl ?_
      exact mf_ireturn dX12_set_26 rfl rfl ⟨rfl, rfl⟩
  · refine mf_iconst (v := -1) dX12_set_13 rfl ?_
    exact mf_ireturn dX12_set_14 rfl rfl ⟨rfl, rfl⟩
