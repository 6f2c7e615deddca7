set_option maxRecDepth 100000 in
set_option maxHeartbeats 4000000 in
theorem aX12_back (d : Nat) (q : m_S) (hM : isM q) (a1 : Int32) : AC rI yX12_back cX12_back 2 (some .int) (d + 4) [.ref 218, .int a1] q (fX12_back a1) := by
  refine ac_of (by decide +kernel) (Nat.le_of_ble_eq_true rfl) ?_
  unfold fX12_back
  show MF rI (yX12_back.cls, cX12_back, 2, (some .int), yX12_back.name, d + 4, 0, 0) 0 [(0, .ref 218), (1, .int a1)] [] q _
  refine mf_aload_n 0 dX12_back_0 rfl ?_
  refine mf_iconst (v := 0) dX12_back_1 rfl ?_
  refine mf_puti 12 0 dX12_back_2 fl_X12_1 (by decide) (by decide) rfl rfl (mo_o hM) ?_
  refine mf_aload_n 0 dX12_back_5 rfl ?_
  refine mf_iload_n 1 dX12_back_6 rfl ?_
  refine mf_cVi (rest := []) [.int a1] (aX12_isRoute (d + 1) q hM a1) mY_X12_isRoute dX12_back_7 ml_X12_329 (mo_o hM) rfl rfl (Nat.le_of_ble_eq_true rfl) rfl (fun v1 => ?_)
  refine mf_if_ne (tgt := 15) dX12_back_10 (by decide) ?_ ?_
  · refine mf_aload_n 0 dX12_back_15 rfl ?_
    refine mf_getr 12 6 dX12_back_16 fl_X12_33 (by decide) (by decide) rfl (mo_o hM) (mo_r6 hM) (by decide) ?_
    refine mf_sipush (v := 229) dX12_back_19 (by decide) ?_
    refine mf_iload_n 1 dX12_back_22 rfl ?_
    refine mf_iadd dX12_back_23 ?_
    refine mf_iald dX12_back_24 (mo_a6 hM) (fun v2 => ?_)
    refine mf_iconst (v := 1) dX12_back_25 rfl ?_
    refine mf_icmp_eq (tgt := 31) dX12_back_26 (by decide) ?_ ?_
    · refine mf_aload_n 0 dX12_back_31 rfl ?_
      refine mf_cVv (rest := []) [] (aX12_stores (d + 2) q hM) mY_X12_stores dX12_back_32 ml_X12_379 (mo_o hM) rfl rfl (Nat.le_of_ble_eq_true rfl) rfl (fun _ => ?_)
      refine mf_aload_n 0 dX12_back_35 rfl ?_
      refine mf_iload_n 1 dX12_back_36 rfl ?_
      refine mf_cVv (rest := []) [.int a1] (aX12_putsBack (d + 0) q hM a1) mY_X12_putsBack dX12_back_37 ml_X12_382 (mo_o hM) rfl rfl (Nat.le_of_ble_eq_true rfl) rfl (fun _ => ?_)
      refine mf_iconst (v := 0) dX12_back_40 rfl ?_
      exact mf_ireturn dX12_back_41 rfl rfl ⟨rfl, rfl⟩
    · refine mf_iconst (v := 1) dX12_back_29 rfl ?_
      exact mf_ireturn dX12_back_30 rfl rfl ⟨rfl, rfl⟩
  · refine mf_iconst (v := -1) dX12_back_13 rfl ?_
    exact mf_ireturn dX12_back_14 rfl rfl ⟨rfl, rfl⟩
set_option maxRecDepth 100000 in
set_option maxHeartbeats 4000000 in
theorem aX12_turn (d : Nat) (q : m_S) (hM : isM q) (a1 : Int32) : AC rI yX12_turn cX12_turn 3 (some .int) (d + 5) [.ref 218, .int a1] q (fX12_turn a1) := by
  refine ac_of (by decide +kernel) (Nat.le_of_ble_eq_true rfl) ?_
  unfold fX12_turn
  show MF rI (yX12_turn.cls, cX12_turn, 3, (some .int), yX12_turn.name, d + 5, 0, 0) 0 [(0, .ref 218), (1, .int a1)] [] q _
  refine mf_aload_n 0 dX12_turn_0 rfl ?_
  refine mf_iconst (v := 0) dX12_turn_1 rfl ?_
  refine mf_puti 12 0 dX12_turn_2 fl_X12_1 (by decide) (by decide) rfl rfl (mo_o hM) ?_
  refine mf_aload_n 0 dX12_turn_5 rfl ?_
  refine mf_iload_n 1 dX12_turn_6 rfl ?_
  refine mf_cVi (rest := []) [.int a1] (aX12_arePoints (d + 2) q hM a1) mY_X12_arePoints dX12_turn_7 ml_X12_317 (mo_o hM) rfl rfl (Nat.le_of_ble_eq_true rfl) rfl (fun v1 => ?_)
  refine mf_if_ne (tgt := 15) dX12_turn_10 (by decide) ?_ ?_
  · refine mf_aload_n 0 dX12_turn_15 rfl ?_
    refine mf_iload_n 1 dX12_turn_16 rfl ?_
    refine mf_cVi (rest := []) [.int a1] (aX12_whyThrow (d + 0) q hM a1) mY_X12_whyThrow dX12_turn_17 ml_X12_385 (mo_o hM) rfl rfl (Nat.le_of_ble_eq_true rfl) rfl (fun v2 => ?_)
    refine mf_istore_n [(2, .int v2), (0, .ref 218), (1, .int a1)] dX12_turn_20 (Nat.le_of_ble_eq_true rfl) rfl ?_
    refine mf_iload_n 0 dX12_turn_21 rfl ?_
    refine mf_if_le (tgt := 27) dX12_turn_22 (by decide) ?_ ?_
    · refine mf_aload_n 1 dX12_turn_27 rfl ?_
      refine mf_cVv (rest := []) [] (aX12_stores (d + 3) q hM) mY_X12_stores dX12_turn_28 ml_X12_379 (mo_o hM) rfl rfl (Nat.le_of_ble_eq_true rfl) rfl (fun _ => ?_)
      refine mf_aload_n 1 dX12_turn_31 rfl ?_
      refine mf_getr 12 6 dX12_turn_32 fl_X12_33 (by decide) (by decide) rfl (mo_o hM) (mo_r6 hM) (by decide) ?_
      refine mf_sipush (v := 228) dX12_turn_35 (by decide) ?_
      refine mf_dup2 dX12_turn_38 rfl rfl ?_
      refine mf_iald dX12_turn_39 (mo_a6 hM) (fun v3 => ?_)
      refine mf_iconst (v := 1) dX12_turn_40 rfl ?_
      refine mf_iload_n 2 dX12_turn_41 rfl ?_
      refine mf_ishl dX12_turn_42 ?_
      refine mf_ixor dX12_turn_43 ?_
      refine mf_iast dX12_turn_44 (mo_a6 hM) ?_
      refine mf_iconst (v := 0) dX12_turn_45 rfl ?_
      exact mf_ireturn dX12_turn_46 rfl rfl ⟨rfl, rfl⟩
    · refine mf_iload_n 0 dX12_turn_25 rfl ?_
      exact mf_ireturn dX12_turn_26 rfl rfl ⟨rfl, rfl⟩
  · refine mf_iconst (v := -1) dX12_turn_13 rfl ?_
    exact mf_ireturn dX12_turn_14 rfl rfl ⟨rfl, rfl⟩
set_option maxRecDepth 100000 in
set_option maxHeartbeats 4000000 in
theorem aX12_fail (d : Nat) (q : m_S) (hM : isM q) (a1 : Int32) (a2 : Int32) : AC rI yX12_fail cX12_fail 3 (some .int) (d + 3) [.ref 218, .int a1, .int a2] q (fX12_fail a1 a2) := by
  refine ac_of (by decide +kernel) (Nat.le_of_ble_eq_true rfl) ?_
  unfold fX12_fail
  show MF rI (yX12_fail.cls, cX12_fail, 3, (some .int), yX12_fail.name, d + 3, 0, 0) 0 [(0, .ref 218), (1, .int a1), (2, .int a2)] [] q _
  refine mf_aload_n 0 dX12_fail_0 rfl ?_
  refine mf_iconst (v := 0) dX12_fail_1 rfl ?_
  refine mf_puti 12 0 dX12_fail_2 fl_X12_1 (by decide) (by decide) rfl rfl (mo_o hM) ?_
  refine mf_aload_n 0 dX12_fail_5 rfl ?_
  refine mf_iload_n 1 dX12_fail_6 rfl ?_
  refine mf_cVi (rest := []) [.int a1] (aX12_isSection (d + 0) q hM a1) mY_X12_isSection dX12_fail_7 ml_X12_311 (mo_o hM) rfl rfl (Nat.le_of_ble_eq_true rfl) rfl (fun v1 => ?_)
  refine mf_if_eq (tgt := 22) dX12_fail_10 (by decide) ?_ ?_
  · refine mf_iconst (v := -1) dX12_fail_22 rfl ?_
    exact mf_ireturn dX12_fail_23 rfl rfl ⟨rfl, rfl⟩
  · refine mf_iload_n 2 dX12_fail_13 rfl ?_
    refine mf_iconst (v := 0) dX12_fail_14 rfl ?_
    refine mf_iconst (v := 1) dX12_fail_15 rfl ?_
    refine mf_cSi (rest := []) [.int a2, .int 0, .int 1] (aX12_isIn (d + 1) q a2 0 1) mY_X12_isIn dX12_fail_16 ml_X12_211 rfl rfl (Nat.le_of_ble_eq_true rfl) rfl (fun v2 => ?_)
    refine mf_if_ne (tgt := 24) dX12_fail_19 (by decide) ?_ ?_
    · refine mf_aload_n 0 dX12_fail_24 rfl ?_
      refine mf_getr 12 6 dX12_fail_25 fl_X12_33 (by decide) (by decide) rfl (mo_o hM) (mo_r6 hM) (by decide) ?_
      refine mf_sipush (v := 259) dX12_fail_28 (by decide) ?_
      refine mf_iload_n 1 dX12_fail_31 rfl ?_
      refine mf_iadd dX12_fail_32 ?_
      refine mf_iald dX12_fail_33 (mo_a6 hM) (fun v3 => ?_)
      refine mf_iload_n 2 dX12_fail_34 rfl ?_
      refine mf_iconst (v := 1) dX12_fail_35 rfl ?_
      refine mf_iadd dX12_fail_36 ?_
      refine mf_icmp_ne (tgt := 42) dX12_fail_37 (by decide) ?_ ?_
      · refine mf_aload_n 0 dX12_fail_42 rfl ?_
        refine mf_cVv (rest := []) [] (aX12_stores (d + 1) q hM) mY_X12_stores dX12_fail_43 ml_X12_379 (mo_o hM) rfl rfl (Nat.le_of_ble_eq_true rfl) rfl (fun _ => ?_)
        refine mf_aload_n 0 dX12_fail_46 rfl ?_
        refine mf_getr 12 6 dX12_fail_47 fl_X12_33 (by decide) (by decide) rfl (mo_o hM) (mo_r6 hM) (by decide) ?_
        refine mf_sipush (v := 259) dX12_fail_50 (by decide) ?_
        refine mf_iload_n 1 dX12_fail_53 rfl ?_
        refine mf_iadd dX12_fail_54 ?_
        refine mf_iload_n 2 dX12_fail_55 rfl ?_
        refine mf_iconst (v := 1) dX12_fail_56 rfl ?_
        refine mf_iadd dX12_fail_57 ?_
        refine mf_iast dX12_fail_58 (mo_a6 hM) ?_
        refine mf_iconst (v := 0) dX12_fail_59 rfl ?_
        exact mf_ireturn dX12_fail_60 rfl rfl ⟨rfl, rfl⟩
      · refine mf_iconst (v := 1) dX12_fail_40 rfl ?_
        exact mf_ireturn dX12_fail_41 rfl rfl ⟨rfl, rfl⟩
    · refine mf_iconst (v := -1) dX12_fail_22 rfl ?_
      exact mf_ireturn dX12_fail_23 rfl rfl ⟨rfl, rfl⟩
set_option maxRecDepth 100000 in
set_option maxHeartbeats 4000000 in
theorem aX12_mend (d : Nat) (q : m_S) (hM : isM q) (a1 : Int32) : AC rI yX12_mend cX12_mend 2 (some .int) (d + 3) [.ref 218, .int a1] q (fX12_mend a1) := by
  refine ac_of (by decide +kernel) (Nat.le_of_ble_eq_true rfl) ?_
  unfold fX12_mend
  show MF rI (yX12_mend.cls, cX12_mend, 2, (some .int), yX12_mend.name, d + 3, 0, 0) 0 [(0, .ref 218), (1, .int a1)] [] q _
  refine mf_aload_n 0 dX12_mend_0 rfl ?_
  refine mf_iconst (v := 0) dX12_mend_1 rfl ?_
  refine mf_puti 12 0 dX12_mend_2 fl_X12_1 (by decide) (by decide) rfl rfl (mo_o hM) ?_
  refine mf_aload_n 0 dX12_mend_5 rfl ?_
  refine mf_iload_n 1 dX12_mend_6 rfl ?_
  refine mf_cVi (rest := []) [.int a1] (aX12_isSection (d + 0) q hM a1) mY_X12_isSection dX12_mend_7 ml_X12_311 (mo_o hM) rfl rfl (Nat.le_of_ble_eq_true rfl) rfl (fun v1 => ?_)
  refine mf_if_ne (tgt := 15) dX12_mend_10 (by decide) ?_ ?_
  · refine mf_aload_n 0 dX12_mend_15 rfl ?_
    refine mf_getr 12 6 dX12_mend_16 fl_X12_33 (by decide) (by decide) rfl (mo_o hM) (mo_r6 hM) (by decide) ?_
    refine mf_sipush (v := 259) dX12_mend_19 (by decide) ?_
    refine mf_iload_n 1 dX12_mend_22 rfl ?_
    refine mf_iadd dX12_mend_23 ?_
    refine mf_iald dX12_mend_24 (mo_a6 hM) (fun v2 => ?_)
    refine mf_if_ne (tgt := 30) dX12_mend_25 (by decide) ?_ ?_
    · refine mf_aload_n 0 dX12_mend_30 rfl ?_
      refine mf_cVv (rest := []) [] (aX12_stores (d + 1) q hM) mY_X12_stores dX12_mend_31 ml_X12_379 (mo_o hM) rfl rfl (Nat.le_of_ble_eq_true rfl) rfl (fun _ => ?_)
      refine mf_aload_n 0 dX12_mend_34 rfl ?_
      refine mf_getr 12 6 dX12_mend_35 fl_X12_33 (by decide) (by decide) rfl (mo_o hM) (mo_r6 hM) (by decide) ?_
      refine mf_sipush (v := 259) dX12_mend_38 (by decide) ?_
      refine mf_iload_n 1 dX12_mend_41 rfl ?_
      refine mf_iadd dX12_mend_42 ?_
      refine mf_iconst (v := 0) dX12_mend_43 rfl ?_
      refine mf_iast dX12_mend_44 (mo_a6 hM) ?_
      refine mf_iconst (v := 0) dX12_mend_45 rfl ?_
      exact mf_ireturn dX12_mend_46 rfl rfl ⟨rfl, rfl⟩
    · refine mf_iconst (v := 1) dX12_mend_28 rfl ?_
      exact mf_ireturn dX12_mend_29 rfl rfl ⟨rfl, rfl⟩
  · refine mf_iconst (v := -1) dX12_mend_13 rfl ?_
    exact mf_ireturn dX12_mend_14 rfl rfl ⟨rfl, rfl⟩
set_option maxRecDepth 100000 in
set_option maxHeartbeats 4000000 in
theorem aX12_ticks (d : Nat) (q : m_S) (hM : isM q) (a1 : Int32) : AC rI yX12_ticks cX12_ticks 2 (some .int) (d + 6) [.ref 218, .int a1] q (fX12_ticks a1) := by
  refine ac_of (by decide +kernel) (Nat.le_of_ble_eq_true rfl) ?_
  unfold fX12_ticks
  show MF rI (yX12_ticks.cls, cX12_ticks, 2, (some .int), yX12_ticks.name, d + 6, 0, 0) 0 [(0, .ref 218), (1, .int a1)] [] q _
  refine mf_aload_n 0 dX12_ticks_0 rfl ?_
  refine mf_iconst (v := 0) dX12_ticks_1 rfl ?_
  refine mf_puti 12 0 dX12_ticks_2 fl_X12_1 (by decide) (by decide) rfl rfl (mo_o hM) ?_
  refine mf_iload_n 1 dX12_ticks_5 rfl ?_
  refine mf_iconst (v := 1) dX12_ticks_6 rfl ?_
  refine mf_bipush (v := 60) dX12_ticks_7 (by decide) ?_
  refine mf_cSi (rest := []) [.int a1, .int 1, .int 60] (aX12_isIn (d + 4) q a1 1 60) mY_X12_isIn dX12_ticks_9 ml_X12_211 rfl rfl (Nat.le_of_ble_eq_true rfl) rfl (fun v1 => ?_)
  refine mf_if_ne (tgt := 17) dX12_ticks_12 (by decide) ?_ ?_
  · refine mf_aload_n 0 dX12_ticks_17 rfl ?_
    refine mf_getr 12 6 dX12_ticks_18 fl_X12_33 (by decide) (by decide) rfl (mo_o hM) (mo_r6 hM) (by decide) ?_
    refine mf_sipush (v := 226) dX12_ticks_21 (by decide) ?_
    refine mf_iald dX12_ticks_24 (mo_a6 hM) (fun v2 => ?_)
    refine mf_sipush (v := 1000) dX12_ticks_25 (by decide) ?_
    refine mf_icmp_ne (tgt := 33) dX12_ticks_28 (by decide) ?_ ?_
    · refine mf_aload_n 0 dX12_ticks_33 rfl ?_
      refine mf_cVv (rest := []) [] (aX12_stores (d + 4) q hM) mY_X12_stores dX12_ticks_34 ml_X12_379 (mo_o hM) rfl rfl (Nat.le_of_ble_eq_true rfl) rfl (fun _ => ?_)
      refine mf_aload_n 0 dX12_ticks_37 rfl ?_
      refine mf_iload_n 1 dX12_ticks_38 rfl ?_
      refine mf_cVi (rest := []) [.int a1] (aX12_goesOn (d + 0) q hM a1) mY_X12_goesOn dX12_ticks_39 ml_X12_388 (mo_o hM) rfl rfl (Nat.le_of_ble_eq_true rfl) rfl (fun v3 => ?_)
      exact mf_ireturn dX12_ticks_42 rfl rfl ⟨rfl, rfl⟩
    · refine mf_iconst (v := 0) dX12_ticks_31 rfl ?_
      exact mf_ireturn dX12_ticks_32 rfl rfl ⟨rfl, rfl⟩
  · refine mf_iconst (v := -1) dX12_ticks_15 rfl ?_
    exact mf_ireturn dX12_ticks_16 rfl rfl ⟨rfl, rfl⟩
set_option maxRecDepth 100000 in
set_option maxHeartbeats 4000000 in
theorem aX12_undo (d : Nat) (q : m_S) (hM : isM q)  : AC rI yX12_undo cX12_undo 2 (some .int) (d + 1) [.ref 218] q (fX12_undo ) := by
  refine ac_of (by decide +kernel) (Nat.le_of_ble_eq_true rfl) ?_
  unfold fX12_undo
  show MF rI (yX12_undo.cls, cX12_undo, 2, (some .int), yX12_undo.name, d + 1, 0, 0) 0 [(0, .ref 218)] [] q _
  refine mf_aload_n 0 dX12_undo_0 rfl ?_
  refine mf_iconst (v := 0) dX12_undo_1 rfl ?_
  refine mf_puti 12 0 dX12_undo_2 fl_X12_1 (by decide) (by decide) rfl rfl (mo_o hM) ?_
  refine mf_aload_n 0 dX12_undo_5 rfl ?_
  refine mf_geti 12 23 dX12_undo_6 fl_X12_295 (by decide) (by decide) rfl (mo_o hM) (fun v1 => ?_)
  refine mf_if_ne (tgt := 14) dX12_undo_9 (by decide) ?_ ?_
  · refine mf_aload_n 0 dX12_undo_14 rfl ?_
    refine mf_dup dX12_undo_15 rfl ?_
    refine mf_geti 12 23 dX12_undo_16 fl_X12_295 (by decide) (by decide) rfl (mo_o hM) (fun v2 => ?_)
    refine mf_iconst (v := 1) dX12_undo_19 rfl ?_
    refine mf_isub dX12_undo_20 ?_
    refine mf_puti 12 23 dX12_undo_21 fl_X12_295 (by decide) (by decide) rfl rfl (mo_o hM) ?_
    refine mf_iconst (v := 0) dX12_undo_24 rfl ?_
    refine mf_istore_n [(1, .int 0), (0, .ref 218)] dX12_undo_25 (Nat.le_of_ble_eq_true rfl) rfl ?_
    refine mf_sub [1, 0] rfl ?_
    refine mf_lz1 (lv := fun x3 => [(0, .ref 218), (1, .int x3)]) (fun L26 h26 x3 => ?_) _ _
    show MF rI (yX12_undo.cls, cX12_undo, 2, (some .int), yX12_undo.name, d + 1, 0, 0) 26 [(0, .ref 218), (1, .int x3)] [] q _
    refine mf_iload_n 1 dX12_undo_26 rfl ?_
    refine mf_bipush (v := 62) dX12_undo_27 (by decide) ?_
    refine mf_icmp_ge (tgt := 62) dX12_undo_29 (by decide) ?_ ?_
    · refine mf_aload_n 0 dX12_undo_62 rfl ?_
      refine mf_geti 12 23 dX12_undo_63 fl_X12_295 (by decide) (by decide) rfl (mo_o hM) (fun v4 => ?_)
      exact mf_ireturn dX12_undo_66 rfl rfl ⟨rfl, rfl⟩
    · refine mf_aload_n 0 dX12_undo_32 rfl ?_
      refine mf_getr 12 6 dX12_undo_33 fl_X12_33 (by decide) (by decide) rfl (mo_o hM) (mo_r6 hM) (by decide) ?_
      refine mf_sipush (v := 226) dX12_undo_36 (by decide) ?_
      refine mf_iload_n 1 dX12_undo_39 rfl ?_
      refine mf_iadd dX12_undo_40 ?_
      refine mf_aload_n 0 dX12_undo_41 rfl ?_
      refine mf_getr 12 21 dX12_undo_42 fl_X12_50 (by decide) (by decide) rfl (mo_o hM) (mo_r21 hM) (by decide) ?_
      refine mf_bipush (v := 62) dX12_undo_45 (by decide) ?_
      refine mf_aload_n 0 dX12_undo_47 rfl ?_
      refine mf_geti 12 23 dX12_undo_48 fl_X12_295 (by decide) (by decide) rfl (mo_o hM) (fun v5 => ?_)
      refine mf_imul dX12_undo_51 ?_
      refine mf_iload_n 1 dX12_undo_52 rfl ?_
      refine mf_iadd dX12_undo_53 ?_
      refine mf_iald dX12_undo_54 (mo_a21 hM) (fun v6 => ?_)
      refine mf_iast dX12_undo_55 (mo_a6 hM) ?_
      refine mf_iinc 1 (x3 + 1) [(1, .int (x3 + 1)), (0, .ref 218)] dX12_undo_56 rfl rfl (Nat.le_of_ble_eq_true rfl) rfl ?_
      refine mf_goto (tgt := 26) dX12_undo_59 (by decide) ?_
      refine mf_sub [1, 0] rfl ?_
      exact h26 _
  · refine mf_iconst (v := -1) dX12_undo_12 rfl ?_
    exact mf_ireturn dX12_undo_13 rfl rfl ⟨rfl, rfl⟩
set_option maxRecDepth 100000 in
set_option maxHeartbeats 4000000 in
theorem aX12_tries (d : Nat) (q : m_S) (hM : isM q)  : AC rU yX12_tries cX12_tries 2 none (d + 1) [.ref 218] q (fX12_tries ) := by
  refine ac_of (by decide +kernel) (Nat.le_of_ble_eq_true rfl) ?_
  unfold fX12_tries
  show MF rU (yX12_tries.cls, cX12_tries, 2, none, yX12_tries.name, d + 1, 0, 0) 0 [(0, .ref 218)] [] q _
  refine mf_iconst (v := 0) dX12_tries_0 rfl ?_
  refine mf_istore_n [(1, .int 0), (0, .ref 218)] dX12_tries_1 (Nat.le_of_ble_eq_true rfl) rfl ?_
  refine mf_sub [1, 0] rfl ?_
  refine mf_lz1 (lv := fun x1 => [(0, .ref 218), (1, .int x1)]) (fun L2 h2 x1 => ?_) _ _
  show MF rU (yX12_tries.cls, cX12_tries, 2, none, yX12_tries.name, d + 1, 0, 0) 2 [(0, .ref 218), (1, .int x1)] [] q _
  refine mf_iload_n 1 dX12_tries_2 rfl ?_
  refine mf_bipush (v := 62) dX12_tries_3 (by decide) ?_
  refine mf_icmp_ge (tgt := 30) dX12_tries_5 (by decide) ?_ ?_
  · exact mf_return dX12_tries_30 rfl ⟨rfl, rfl⟩
  · refine mf_aload_n 0 dX12_tries_8 rfl ?_
    refine mf_getr 12 22 dX12_tries_9 fl_X12_53 (by decide) (by decide) rfl (mo_o hM) (mo_r22 hM) (by decide) ?_
    refine mf_iload_n 1 dX12_tries_12 rfl ?_
    refine mf_aload_n 0 dX12_tries_13 rfl ?_
    refine mf_getr 12 6 dX12_tries_14 fl_X12_33 (by decide) (by decide) rfl (mo_o hM) (mo_r6 hM) (by decide) ?_
    refine mf_sipush (v := 226) dX12_tries_17 (by decide) ?_
    refine mf_iload_n 1 dX12_tries_20 rfl ?_
    refine mf_iadd dX12_tries_21 ?_
    refine mf_iald dX12_tries_22 (mo_a6 hM) (fun v2 => ?_)
    refine mf_iast dX12_tries_23 (mo_a22 hM) ?_
    refine mf_iinc 1 (x1 + 1) [(1, .int (x1 + 1)), (0, .ref 218)] dX12_tries_24 rfl rfl (Nat.le_of_ble_eq_true rfl) rfl ?_
    refine mf_goto (tgt := 2) dX12_tries_27 (by decide) ?_
    refine mf_sub [1, 0] rfl ?_
    exact h2 _
set_option maxRecDepth 100000 in
set_option maxHeartbeats 4000000 in
theorem aX12_brings (d : Nat) (q : m_S) (hM : isM q)  : AC rU yX12_brings cX12_brings 2 none (d + 1) [.ref 218] q (fX12_brings ) := by
  refine ac_of (by decide +kernel) (Nat.le_of_ble_eq_true rfl) ?_
  unfold fX12_brings
  show MF rU (yX12_brings.cls, cX12_brings, 2, none, yX12_brings.name, d + 1, 0, 0) 0 [(0, .ref 218)] [] q _
  refine mf_iconst (v := 0) dX12_brings_0 rfl ?_
  refine mf_istore_n [(1, .int 0), (0, .ref 218)] dX12_brings_1 (Nat.le_of_ble_eq_true rfl) rfl ?_
  refine mf_sub [1, 0] rfl ?_
  refine mf_lz1 (lv := fun x1 => [(0, .ref 218), (1, .int x1)]) (fun L2 h2 x1 => ?_) _ _
  show MF rU (yX12_brings.cls, cX12_brings, 2, none, yX12_brings.name, d + 1, 0, 0) 2 [(0, .ref 218), (1, .int x1)] [] q _
  refine mf_iload_n 1 dX12_brings_2 rfl ?_
  refine mf_bipush (v := 62) dX12_brings_3 (by decide) ?_
  refine mf_icmp_ge (tgt := 30) dX12_brings_5 (by decide) ?_ ?_
  · exact mf_return dX12_brings_30 rfl ⟨rfl, rfl⟩
  · refine mf_aload_n 0 dX12_brings_8 rfl ?_
    refine mf_getr 12 6 dX12_brings_9 fl_X12_33 (by decide) (by decide) rfl (mo_o hM) (mo_r6 hM) (by decide) ?_
    refine mf_sipush (v := 226) dX12_brings_12 (by decide) ?_
    refine mf_iload_n 1 dX12_brings_15 rfl ?_
    refine mf_iadd dX12_brings_16 ?_
    refine mf_aload_n 0 dX12_brings_17 rfl ?_
    refine mf_getr 12 22 dX12_brings_18 fl_X12_53 (by decide) (by decide) rfl (mo_o hM) (mo_r22 hM) (by decide) ?_
    refine mf_iload_n 1 dX12_brings_21 rfl ?_
    refine mf_iald dX12_brings_22 (mo_a22 hM) (fun v2 => ?_)
    refine mf_iast dX12_brings_23 (mo_a6 hM) ?_
    refine mf_iinc 1 (x1 + 1) [(1, .int (x1 + 1)), (0, .ref 218)] dX12_brings_24 rfl rfl (Nat.le_of_ble_eq_true rfl) rfl ?_
    refine mf_goto (tgt := 2) dX12_brings_27 (by decide) ?_
    refine mf_sub [1, 0] rfl ?_
    exact h2 _
set_option maxRecDepth 100000 in
set_option maxHeartbeats 4000000 in
theorem aX12_isLacking (d : Nat) (q : m_S) (hM : isM q) (a1 : Int32) (a2 : Int32) : AC rI yX12_isLacking cX12_isLacking 3 (some .boolean) (d + 3) [.ref 218, .int a1, .int a2] q (fX12_isLacking a1 a2) := by
  refine ac_of (by decide +kernel) (Nat.le_of_ble_eq_true rfl) ?_
  unfold fX12_isLacking
  show MF rI (yX12_isLacking.cls, cX12_isLacking, 3, (some .boolean), yX12_isLacking.name, d + 3, 0, 0) 0 [(0, .ref 218), (1, .int a1), (2, .int a2)] [] q _
  refine mf_aload_n 0 dX12_isLacking_0 rfl ?_
  refine mf_iload_n 1 dX12_isLacking_1 rfl ?_
  refine mf_iload_n 2 dX12_isLacking_2 rfl ?_
  refine mf_cVi (rest := []) [.int a1, .int a2] (aX12_isConflict (d + 0) q hM a1 a2) mY_X12_isConflict dX12_isLacking_3 ml_X12_308 (mo_o hM) rfl rfl (Nat.le_of_ble_eq_true rfl) rfl (fun v1 => ?_)
  refine mf_if_eq (tgt := 51) dX12_isLacking_6 (by decide) ?_ ?_
  · refine mf_iconst (v := 0) dX12_isLacking_51 rfl ?_
    exact mf_ireturn dX12_isLacking_52 rfl rfl ⟨rfl, rfl⟩
  · refine mf_aload_n 0 dX12_isLacking_9 rfl ?_
    refine mf_getr 12 6 dX12_isLacking_10 fl_X12_33 (by decide) (by decide) rfl (mo_o hM) (mo_r6 hM) (by decide) ?_
    refine mf_sipush (v := 206) dX12_isLacking_13 (by decide) ?_
    refine mf_iload_n 1 dX12_isLacking_16 rfl ?_
    refine mf_iadd dX12_isLacking_17 ?_
    refine mf_iald dX12_isLacking_18 (mo_a6 hM) (fun v2 => ?_)
    refine mf_iload_n 2 dX12_isLacking_19 rfl ?_
    refine mf_cSi (rest := []) [.int v2, .int a2] (aX12_bitOf (d + 1) q v2 a2) mY_X12_bitOf dX12_isLacking_20 ml_X12_280 rfl rfl (Nat.le_of_ble_eq_true rfl) rfl (fun v3 => ?_)
    refine mf_if_ne (tgt := 51) dX12_isLacking_23 (by decide) ?_ ?_
    · refine mf_iconst (v := 0) dX12_isLacking_51 rfl ?_
      exact mf_ireturn dX12_isLacking_52 rfl rfl ⟨rfl, rfl⟩
    · refine mf_aload_n 0 dX12_isLacking_26 rfl ?_
      refine mf_getr 12 6 dX12_isLacking_27 fl_X12_33 (by decide) (by decide) rfl (mo_o hM) (mo_r6 hM) (by decide) ?_
      refine mf_bipush (v := 106) dX12_isLacking_30 (by decide) ?_
      refine mf_iload_n 1 dX12_isLacking_32 rfl ?_
      refine mf_iadd dX12_isLacking_33 ?_
      refine mf_iald dX12_isLacking_34 (mo_a6 hM) (fun v4 => ?_)
      refine mf_aload_n 0 dX12_isLacking_35 rfl ?_
      refine mf_getr 12 6 dX12_isLacking_36 fl_X12_33 (by decide) (by decide) rfl (mo_o hM) (mo_r6 hM) (by decide) ?_
      refine mf_bipush (v := 106) dX12_isLacking_39 (by decide) ?_
      refine mf_iload_n 2 dX12_isLacking_41 rfl ?_
      refine mf_iadd dX12_isLacking_42 ?_
      refine mf_iald dX12_isLacking_43 (mo_a6 hM) (fun v5 => ?_)
      refine mf_icmp_eq (tgt := 51) dX12_isLacking_44 (by decide) ?_ ?_
      · refine mf_iconst (v := 0) dX12_isLacking_51 rfl ?_
        exact mf_ireturn dX12_isLacking_52 rfl rfl ⟨rfl, rfl⟩
      · refine mf_iconst (v := 1) dX12_isLacking_47 rfl ?_
        refine mf_goto (tgt := 52) dX12_isLacking_48 (by decide) ?_
        exact mf_ireturn dX12_isLacking_52 rfl rfl ⟨rfl, rfl⟩
set_option maxRecDepth 100000 in
set_option maxHeartbeats 4000000 in
theorem aX12_lacking (d : Nat) (q : m_S) (hM : isM q)  : AC rI yX12_lacking cX12_lacking 4 (some .int) (d + 4) [.ref 218] q (fX12_lacking ) := by
  refine ac_of (by decide +kernel) (Nat.le_of_ble_eq_true rfl) ?_
  unfold fX12_lacking
  show MF rI (yX12_lacking.cls, cX12_lacking, 4, (some .int), yX12_lacking.name, d + 4, 0, 0) 0 [(0, .ref 218)] [] q _
  refine mf_aload_n 0 dX12_lacking_0 rfl ?_
  refine mf_iconst (v := 0) dX12_lacking_1 rfl ?_
  refine mf_puti 12 0 dX12_lacking_2 fl_X12_1 (by decide) (by decide) rfl rfl (mo_o hM) ?_
  refine mf_iconst (v := 0) dX12_lacking_5 rfl ?_
  refine mf_istore_n [(1, .int 0), (0, .ref 218)] dX12_lacking_6 (Nat.le_of_ble_eq_true rfl) rfl ?_
  refine mf_iconst (v := 0) dX12_lacking_7 rfl ?_
  refine mf_istore_n [(2, .int 0), (1, .int 0), (0, .ref 218)] dX12_lacking_8 (Nat.le_of_ble_eq_true rfl) rfl ?_
  refine mf_sub [2, 1, 0] rfl ?_
  refine mf_lz2 (lv := fun x1 x2 => [(0, .ref 218), (1, .int x1), (2, .int x2)]) (fun L9 h9 x1 x2 => ?_) _ _ _
  show MF rI (yX12_lacking.cls, cX12_lacking, 4, (some .int), yX12_lacking.name, d + 4, 0, 0) 9 [(0, .ref 218), (1, .int x1), (2, .int x2)] [] q _
  refine mf_iload_n 2 dX12_lacking_9 rfl ?_
  refine mf_aload_n 0 dX12_lacking_10 rfl ?_
  refine mf_getr 12 6 dX12_lacking_11 fl_X12_33 (by decide) (by decide) rfl (mo_o hM) (mo_r6 hM) (by decide) ?_
  refine mf_iconst (v := 4) dX12_lacking_14 rfl ?_
  refine mf_iald dX12_lacking_15 (mo_a6 hM) (fun v3 => ?_)
  refine mf_icmp_ge (tgt := 62) dX12_lacking_16 (by decide) ?_ ?_
  · refine mf_iload_n 1 dX12_lacking_62 rfl ?_
    exact mf_ireturn dX12_lacking_63 rfl rfl ⟨rfl, rfl⟩
  · refine mf_iload_n 2 dX12_lacking_19 rfl ?_
    refine mf_iconst (v := 1) dX12_lacking_20 rfl ?_
    refine mf_iadd dX12_lacking_21 ?_
    refine mf_istore_n [(3, .int (x2 + 1)), (0, .ref 218), (1, .int x1), (2, .int x2)] dX12_lacking_22 (Nat.le_of_ble_eq_true rfl) rfl ?_
    refine mf_sub [1, 2, 3, 0] rfl ?_
    refine mf_lz2 (lv := fun x4 x5 => [(0, .ref 218), (1, .int x4), (2, .int x2), (3, .int x5)]) (fun L23 h23 x4 x5 => ?_) _ _ _
    show MF rI (yX12_lacking.cls, cX12_lacking, 4, (some .int), yX12_lacking.name, d + 4, 0, 0) 23 [(0, .ref 218), (1, .int x4), (2, .int x2), (3, .int x5)] [] q _
    refine mf_iload_n 3 dX12_lacking_23 rfl ?_
    refine mf_aload_n 0 dX12_lacking_24 rfl ?_
    refine mf_getr 12 6 dX12_lacking_25 fl_X12_33 (by decide) (by decide) rfl (mo_o hM) (mo_r6 hM) (by decide) ?_
    refine mf_iconst (v := 4) dX12_lacking_28 rfl ?_
    refine mf_iald dX12_lacking_29 (mo_a6 hM) (fun v6 => ?_)
    refine mf_icmp_ge (tgt := 56) dX12_lacking_30 (by decide) ?_ ?_
    · refine mf_iinc 2 (x2 + 1) [(2, .int (x2 + 1)), (0, .ref 218), (1, .int x4), (3, .int x5)] dX12_lacking_56 rfl rfl (Nat.le_of_ble_eq_true rfl) rfl ?_
      refine mf_goto (tgt := 9) dX12_lacking_59 (by decide) ?_
      refine mf_sub [1, 2, 0] rfl ?_
      exact h9 _ _
    · refine mf_iload_n 1 dX12_lacking_33 rfl ?_
      refine mf_aload_n 0 dX12_lacking_34 rfl ?_
      refine mf_iload_n 2 dX12_lacking_35 rfl ?_
      refine mf_iload_n 3 dX12_lacking_36 rfl ?_
      refine mf_cVi (rest := [.int x4]) [.int x2, .int x5] (aX12_isLacking (d + 0) q hM x2 x5) mY_X12_isLacking dX12_lacking_37 ml_X12_391 (mo_o hM) rfl rfl (Nat.le_of_ble_eq_true rfl) rfl (fun v7 => ?_)
      refine mf_if_eq (tgt := 47) dX12_lacking_40 (by decide) ?_ ?_
      · refine mf_iconst (v := 0) dX12_lacking_47 rfl ?_
        refine mf_iadd dX12_lacking_48 ?_
        refine mf_istore_n [(1, .int (x4 + 0)), (0, .ref 218), (2, .int x2), (3, .int x5)] dX12_lacking_49 (Nat.le_of_ble_eq_true rfl) rfl ?_
        refine mf_iinc 3 (x5 + 1) [(3, .int (x5 + 1)), (1, .int (x4 + 0)), (0, .ref 218), (2, .int x2)] dX12_lacking_50 rfl rfl (Nat.le_of_ble_eq_true rfl) rfl ?_
        refine mf_goto (tgt := 23) dX12_lacking_53 (by decide) ?_
        refine mf_sub [2, 1, 3, 0] rfl ?_
        exact h23 _ _
      · refine mf_iconst (v := 1) dX12_lacking_43 rfl ?_
        refine mf_goto (tgt := 48) dX12_lacking_44 (by decide) ?_
        refine mf_iadd dX12_lacking_48 ?_
        refine mf_istore_n [(1, .int (x4 + 1)), (0, .ref 218), (2, .int x2), (3, .int x5)] dX12_lacking_49 (Nat.le_of_ble_eq_true rfl) rfl ?_
        refine mf_iinc 3 (x5 + 1) [(3, .int (x5 + 1)), (1, .int (x4 + 1)), (0, .ref 218), (2, .int x2)] dX12_lacking_50 rfl rfl (Nat.le_of_ble_eq_true rfl) rfl ?_
        refine mf_goto (tgt := 23) dX12_lacking_53 (by decide) ?_
        refine mf_sub [2, 1, 3, 0] rfl ?_
        exact h23 _ _
set_option maxRecDepth 100000 in
set_option maxHeartbeats 4000000 in
theorem aX12_lacks (d : Nat) (q : m_S) (hM : isM q) (a1 : Int32) : AC rI yX12_lacks cX12_lacks 5 (some .int) (d + 4) [.ref 218, .int a1] q (fX12_lacks a1) := by
  refine ac_of (by decide +kernel) (Nat.le_of_ble_eq_true rfl) ?_
  unfold fX12_lacks
  show MF rI (yX12_lacks.cls, cX12_lacks, 5, (some .int), yX12_lacks.name, d + 4, 0, 0) 0 [(0, .ref 218), (1, .int a1)] [] q _
  refine mf_aload_n 0 dX12_lacks_0 rfl ?_
  refine mf_iconst (v := 0) dX12_lacks_1 rfl ?_
  refine mf_puti 12 0 dX12_lacks_2 fl_X12_1 (by decide) (by decide) rfl rfl (mo_o hM) ?_
  refine mf_iconst (v := 0) dX12_lacks_5 rfl ?_
  refine mf_istore_n [(2, .int 0), (0, .ref 218), (1, .int a1)] dX12_lacks_6 (Nat.le_of_ble_eq_true rfl) rfl ?_
  refine mf_iconst (v := 0) dX12_lacks_7 rfl ?_
  refine mf_istore_n [(3, .int 0), (2, .int 0), (0, .ref 218), (1, .int a1)] dX12_lacks_8 (Nat.le_of_ble_eq_true rfl) rfl ?_
  refine mf_sub [2, 3, 1, 0] rfl ?_
  refine mf_lz2 (lv := fun x1 x2 => [(0, .ref 218), (1, .int a1), (2, .int x1), (3, .int x2)]) (fun L9 h9 x1 x2 => ?_) _ _ _
  show MF rI (yX12_lacks.cls, cX12_lacks, 5, (some .int), yX12_lacks.name, d + 4, 0, 0) 9 [(0, .ref 218), (1, .int a1), (2, .int x1), (3, .int x2)] [] q _
  refine mf_iload_n 3 dX12_lacks_9 rfl ?_
  refine mf_aload_n 0 dX12_lacks_10 rfl ?_
  refine mf_getr 12 6 dX12_lacks_11 fl_X12_33 (by decide) (by decide) rfl (mo_o hM) (mo_r6 hM) (by decide) ?_
  refine mf_iconst (v := 4) dX12_lacks_14 rfl ?_
  refine mf_iald dX12_lacks_15 (mo_a6 hM) (fun v3 => ?_)
  refine mf_icmp_ge (tgt := 76) dX12_lacks_16 (by decide) ?_ ?_
  · refine mf_iconst (v := -1) dX12_lacks_76 rfl ?_
    exact mf_ireturn dX12_lacks_77 rfl rfl ⟨rfl, rfl⟩
  · refine mf_iload_n 3 dX12_lacks_19 rfl ?_
    refine mf_iconst (v := 1) dX12_lacks_20 rfl ?_
    refine mf_iadd dX12_lacks_21 ?_
    refine mf_istore [(4, .int (x2 + 1)), (0, .ref 218), (1, .int a1), (2, .int x1), (3, .int x2)] dX12_lacks_22 (Nat.le_of_ble_eq_true rfl) rfl ?_
    refine mf_sub [1, 2, 3, 4, 0] rfl ?_
    refine mf_lz2 (lv := fun x4 x5 => [(0, .ref 218), (1, .int a1), (2, .int x4), (3, .int x2), (4, .int x5)]) (fun L24 h24 x4 x5 => ?_) _ _ _
    show MF rI (yX12_lacks.cls, cX12_lacks, 5, (some .int), yX12_lacks.name, d + 4, 0, 0) 24 [(0, .ref 218), (1, .int a1), (2, .int x4), (3, .int x2), (4, .int x5)] [] q _
    refine mf_iload 4 dX12_lacks_24 rfl ?_
    refine mf_aload_n 0 dX12_lacks_26 rfl ?_
    refine mf_getr 12 6 dX12_lacks_27 fl_X12_33 (by decide) (by decide) rfl (mo_o hM) (mo_r6 hM) (by decide) ?_
    refine mf_iconst (v := 4) dX12_lacks_30 rfl ?_
    refine mf_iald dX12_lacks_31 (mo_a6 hM) (fun v6 => ?_)
    refine mf_icmp_ge (tgt := 70) dX12_lacks_32 (by decide) ?_ ?_
    · refine mf_iinc 3 (x2 + 1) [(3, .int (x2 + 1)), (0, .ref 218), (1, .int a1), (2, .int x4), (4, .int x5)] dX12_lacks_70 rfl rfl (Nat.le_of_ble_eq_true rfl) rfl ?_
      refine mf_goto (tgt := 9) dX12_lacks_73 (by decide) ?_
      refine mf_sub [1, 2, 3, 0] rfl ?_
      exact h9 _ _
    · refine mf_aload_n 0 dX12_lacks_35 rfl ?_
      refine mf_iload_n 3 dX12_lacks_36 rfl ?_
      refine mf_iload 4 dX12_lacks_37 rfl ?_
      refine mf_cVi (rest := []) [.int x2, .int x5] (aX12_isLacking (d + 0) q hM x2 x5) mY_X12_isLacking dX12_lacks_39 ml_X12_391 (mo_o hM) rfl rfl (Nat.le_of_ble_eq_true rfl) rfl (fun v7 => ?_)
      refine mf_if_ne (tgt := 48) dX12_lacks_42 (by decide) ?_ ?_
      · refine mf_iload_n 2 dX12_lacks_48 rfl ?_
        refine mf_iload_n 1 dX12_lacks_49 rfl ?_
        refine mf_icmp_ne (tgt := 61) dX12_lacks_50 (by decide) ?_ ?_
        · refine mf_iinc 2 (x4 + 1) [(2, .int (x4 + 1)), (0, .ref 218), (1, .int a1), (3, .int x2), (4, .int x5)] dX12_lacks_61 rfl rfl (Nat.le_of_ble_eq_true rfl) rfl ?_
          refine mf_iinc 4 (x5 + 1) [(4, .int (x5 + 1)), (2, .int (x4 + 1)), (0, .ref 218), (1, .int a1), (3, .int x2)] dX12_lacks_64 rfl rfl (Nat.le_of_ble_eq_true rfl) rfl ?_
          refine mf_goto (tgt := 24) dX12_lacks_67 (by decide) ?_
          refine mf_sub [2, 3, 1, 4, 0] rfl ?_
          exact h24 _ _
        · refine mf_bipush (v := 16) dX12_lacks_53 (by decide) ?_
          refine mf_iload_n 3 dX12_lacks_55 rfl ?_
          refine mf_imul dX12_lacks_56 ?_
          refine mf_iload 4 dX12_lacks_57 rfl ?_
          refine mf_iadd dX12_lacks_59 ?_
          exact mf_ireturn dX12_lacks_60 rfl rfl ⟨rfl, rfl⟩
      · refine mf_goto (tgt := 64) dX12_lacks_45 (by decide) ?_
        refine mf_iinc 4 (x5 + 1) [(4, .int (x5 + 1)), (0, .ref 218), (1, .int a1), (2, .int x4), (3, .int x2)] dX12_lacks_64 rfl rfl (Nat.le_of_ble_eq_true rfl) rfl ?_
        refine mf_goto (tgt := 24) dX12_lacks_67 (by decide) ?_
        refine mf_sub [1, 2, 3, 4, 0] rfl ?_
        exact h24 _ _
set_option maxRecDepth 100000 in
set_option maxHeartbeats 4000000 in
theorem aX12_spare (d : Nat) (q : m_S) (hM : isM q)  : AC rI yX12_spare cX12_spare 4 (some .int) (d + 3) [.ref 218] q (fX12_spare ) := by
  refine ac_of (by decide +kernel) (Nat.le_of_ble_eq_true rfl) ?_
  unfold fX12_spare
  show MF rI (yX12_spare.cls, cX12_spare, 4, (some .int), yX12_spare.name, d + 3, 0, 0) 0 [(0, .ref 218)] [] q _
  refine mf_aload_n 0 dX12_spare_0 rfl ?_
  refine mf_iconst (v := 0) dX12_spare_1 rfl ?_
  refine mf_puti 12 0 dX12_spare_2 fl_X12_1 (by decide) (by decide) rfl rfl (mo_o hM) ?_
  refine mf_iconst (v := 0) dX12_spare_5 rfl ?_
  refine mf_istore_n [(1, .int 0), (0, .ref 218)] dX12_spare_6 (Nat.le_of_ble_eq_true rfl) rfl ?_
  refine mf_iconst (v := 0) dX12_spare_7 rfl ?_
  refine mf_istore_n [(2, .int 0), (1, .int 0), (0, .ref 218)] dX12_spare_8 (Nat.le_of_ble_eq_true rfl) rfl ?_
  refine mf_sub [2, 1, 0] rfl ?_
  refine mf_lz2 (lv := fun x1 x2 => [(0, .ref 218), (1, .int x1), (2, .int x2)]) (fun L9 h9 x1 x2 => ?_) _ _ _
  show MF rI (yX12_spare.cls, cX12_spare, 4, (some .int), yX12_spare.name, d + 3, 0, 0) 9 [(0, .ref 218), (1, .int x1), (2, .int x2)] [] q _
  refine mf_iload_n 2 dX12_spare_9 rfl ?_
  refine mf_aload_n 0 dX12_spare_10 rfl ?_
  refine mf_getr 12 6 dX12_spare_11 fl_X12_33 (by decide) (by decide) rfl (mo_o hM) (mo_r6 hM) (by decide) ?_
  refine mf_iconst (v := 4) dX12_spare_14 rfl ?_
  refine mf_iald dX12_spare_15 (mo_a6 hM) (fun v3 => ?_)
  refine mf_icmp_ge (tgt := 79) dX12_spare_16 (by decide) ?_ ?_
  · refine mf_iload_n 1 dX12_spare_79 rfl ?_
    exact mf_ireturn dX12_spare_80 rfl rfl ⟨rfl, rfl⟩
  · refine mf_iload_n 2 dX12_spare_19 rfl ?_
    refine mf_iconst (v := 1) dX12_spare_20 rfl ?_
    refine mf_iadd dX12_spare_21 ?_
    refine mf_istore_n [(3, .int (x2 + 1)), (0, .ref 218), (1, .int x1), (2, .int x2)] dX12_spare_22 (Nat.le_of_ble_eq_true rfl) rfl ?_
    refine mf_sub [1, 2, 3, 0] rfl ?_
    refine mf_lz2 (lv := fun x4 x5 => [(0, .ref 218), (1, .int x4), (2, .int x2), (3, .int x5)]) (fun L23 h23 x4 x5 => ?_) _ _ _
    show MF rI (yX12_spare.cls, cX12_spare, 4, (some .int), yX12_spare.name, d + 3, 0, 0) 23 [(0, .ref 218), (1, .int x4), (2, .int x2), (3, .int x5)] [] q _
    refine mf_iload_n 3 dX12_spare_23 rfl ?_
    refine mf_aload_n 0 dX12_spare_24 rfl ?_
    refine mf_getr 12 6 dX12_spare_25 fl_X12_33 (by decide) (by decide) rfl (mo_o hM) (mo_r6 hM) (by decide) ?_
    refine mf_iconst (v := 4) dX12_spare_28 rfl ?_
    refine mf_iald dX12_spare_29 (mo_a6 hM) (fun v6 => ?_)
    refine mf_icmp_ge (tgt := 73) dX12_spare_30 (by decide) ?_ ?_
    · refine mf_iinc 2 (x2 + 1) [(2, .int (x2 + 1)), (0, .ref 218), (1, .int x4), (3, .int x5)] dX12_spare_73 rfl rfl (Nat.le_of_ble_eq_true rfl) rfl ?_
      refine mf_goto (tgt := 9) dX12_spare_76 (by decide) ?_
      refine mf_sub [1, 2, 0] rfl ?_
      exact h9 _ _
    · refine mf_iload_n 1 dX12_spare_33 rfl ?_
      refine mf_aload_n 0 dX12_spare_34 rfl ?_
      refine mf_getr 12 6 dX12_spare_35 fl_X12_33 (by decide) (by decide) rfl (mo_o hM) (mo_r6 hM) (by decide) ?_
      refine mf_sipush (v := 206) dX12_spare_38 (by decide) ?_
      refine mf_iload_n 2 dX12_spare_41 rfl ?_
      refine mf_iadd dX12_spare_42 ?_
      refine mf_iald dX12_spare_43 (mo_a6 hM) (fun v7 => ?_)
      refine mf_iload_n 3 dX12_spare_44 rfl ?_
      refine mf_cSi (rest := [.int x4]) [.int v7, .int x5] (aX12_bitOf (d + 1) q v7 x5) mY_X12_bitOf dX12_spare_45 ml_X12_280 rfl rfl (Nat.le_of_ble_eq_true rfl) rfl (fun v8 => ?_)
      refine mf_if_eq (tgt := 64) dX12_spare_48 (by decide) ?_ ?_
      · refine mf_iconst (v := 0) dX12_spare_64 rfl ?_
        refine mf_iadd dX12_spare_65 ?_
        refine mf_istore_n [(1, .int (x4 + 0)), (0, .ref 218), (2, .int x2), (3, .int x5)] dX12_spare_66 (Nat.le_of_ble_eq_true rfl) rfl ?_
        refine mf_iinc 3 (x5 + 1) [(3, .int (x5 + 1)), (1, .int (x4 + 0)), (0, .ref 218), (2, .int x2)] dX12_spare_67 rfl rfl (Nat.le_of_ble_eq_true rfl) rfl ?_
        refine mf_goto (tgt := 23) dX12_spare_70 (by decide) ?_
        refine mf_sub [2, 1, 3, 0] rfl ?_
        exact h23 _ _
      · refine mf_aload_n 0 dX12_spare_51 rfl ?_
        refine mf_iload_n 2 dX12_spare_52 rfl ?_
        refine mf_iload_n 3 dX12_spare_53 rfl ?_
        refine mf_cVi (rest := [.int x4]) [.int x2, .int x5] (aX12_isConflict (d + 0) q hM x2 x5) mY_X12_isConflict dX12_spare_54 ml_X12_308 (mo_o hM) rfl rfl (Nat.le_of_ble_eq_true rfl) rfl (fun v9 => ?_)
        refine mf_if_ne (tgt := 64) dX12_spare_57 (by decide) ?_ ?_
        · refine mf_iconst (v := 0) dX12_spare_64 rfl ?_
          refine mf_iadd dX12_spare_65 ?_
          refine mf_istore_n [(1, .int (x4 + 0)), (0, .ref 218), (2, .int x2), (3, .int x5)] dX12_spare_66 (Nat.le_of_ble_eq_true rfl) rfl ?_
          refine mf_iinc 3 (x5 + 1) [(3, .int (x5 + 1)), (1, .int (x4 + 0)), (0, .ref 218), (2, .int x2)] dX12_spare_67 rfl rfl (Nat.le_of_ble_eq_true rfl) rfl ?_
          refine mf_goto (tgt := 23) dX12_spare_70 (by decide) ?_
          refine mf_sub [2, 1, 3, 0] rfl ?_
          exact h23 _ _
        · refine mf_iconst (v := 1) dX12_spare_60 rfl ?_
          refine mf_goto (tgt := 65) dX12_spare_61 (by decide) ?_
          refine mf_iadd dX12_spare_65 ?_
          refine mf_istore_n [(1, .int (x4 + 1)), (0, .ref 218), (2, .int x2), (3, .int x5)] dX12_spare_66 (Nat.le_of_ble_eq_true rfl) rfl ?_
          refine mf_iinc 3 (x5 + 1) [(3, .int (x5 + 1)), (1, .int (x4 + 1)), (0, .ref 218), (2, .int x2)] dX12_spare_67 rfl rfl (Nat.le_of_ble_eq_true rfl) rfl ?_
          refine mf_goto (tgt := 23) dX12_spare_70 (by decide) ?_
          refine mf_sub [2, 1, 3, 0] rfl ?_
          exact h23 _ _
set_option maxRecDepth 100000 in
set_option maxHeartbeats 4000000 in
theorem aX12_pulls (d : Nat) (q : m_S) (hM : isM q) (a1 : Int32) : AC rI yX12_pulls cX12_pulls 6 (some .int) (d + 5) [.ref 218, .int a1] q (fX12_pulls a1) := by
  refine ac_of (by decide +kernel) (Nat.le_of_ble_eq_true rfl) ?_
  unfold fX12_pulls
  show MF rI (yX12_pulls.cls, cX12_pulls, 6, (some .int), yX12_pulls.name, d + 5, 0, 0) 0 [(0, .ref 218), (1, .int a1)] [] q _
  refine mf_aload_n 0 dX12_pulls_0 rfl ?_
  refine mf_iconst (v := 0) dX12_pulls_1 rfl ?_
  refine mf_puti 12 0 dX12_pulls_2 fl_X12_1 (by decide) (by decide) rfl rfl (mo_o hM) ?_
  refine mf_aload_n 0 dX12_pulls_5 rfl ?_
  refine mf_iload_n 1 dX12_pulls_6 rfl ?_
  refine mf_cVi (rest := []) [.int a1] (aX12_isRoute (d + 2) q hM a1) mY_X12_isRoute dX12_pulls_7 ml_X12_329 (mo_o hM) rfl rfl (Nat.le_of_ble_eq_true rfl) rfl (fun v1 => ?_)
  refine mf_if_eq (tgt := 46) dX12_pulls_10 (by decide) ?_ ?_
  · refine mf_iconst (v := -1) dX12_pulls_46 rfl ?_
    exact mf_ireturn dX12_pulls_47 rfl rfl ⟨rfl, rfl⟩
  · refine mf_aload_n 0 dX12_pulls_13 rfl ?_
    refine mf_getr 12 6 dX12_pulls_14 fl_X12_33 (by decide) (by decide) rfl (mo_o hM) (mo_r6 hM) (by decide) ?_
    refine mf_sipush (v := 229) dX12_pulls_17 (by decide) ?_
    refine mf_iload_n 1 dX12_pulls_20 rfl ?_
    refine mf_iadd dX12_pulls_21 ?_
    refine mf_iald dX12_pulls_22 (mo_a6 hM) (fun v2 => ?_)
    refine mf_if_ne (tgt := 46) dX12_pulls_23 (by decide) ?_ ?_
    · refine mf_iconst (v := -1) dX12_pulls_46 rfl ?_
      exact mf_ireturn dX12_pulls_47 rfl rfl ⟨rfl, rfl⟩
    · refine mf_aload_n 0 dX12_pulls_26 rfl ?_
      refine mf_getr 12 6 dX12_pulls_27 fl_X12_33 (by decide) (by decide) rfl (mo_o hM) (mo_r6 hM) (by decide) ?_
      refine mf_bipush (v := 116) dX12_pulls_30 (by decide) ?_
      refine mf_iload_n 1 dX12_pulls_32 rfl ?_
      refine mf_iadd dX12_pulls_33 ?_
      refine mf_iald dX12_pulls_34 (mo_a6 hM) (fun v3 => ?_)
      refine mf_if_eq (tgt := 46) dX12_pulls_35 (by decide) ?_ ?_
      · refine mf_iconst (v := -1) dX12_pulls_46 rfl ?_
        exact mf_ireturn dX12_pulls_47 rfl rfl ⟨rfl, rfl⟩
      · refine mf_aload_n 0 dX12_pulls_38 rfl ?_
        refine mf_iload_n 1 dX12_pulls_39 rfl ?_
        refine mf_cVi (rest := []) [.int a1] (aX12_hasFull (d + 0) q hM a1) mY_X12_hasFull dX12_pulls_40 ml_X12_354 (mo_o hM) rfl rfl (Nat.le_of_ble_eq_true rfl) rfl (fun v4 => ?_)
        refine mf_if_eq (tgt := 48) dX12_pulls_43 (by decide) ?_ ?_
        · refine mf_aload_n 0 dX12_pulls_48 rfl ?_
          refine mf_iload_n 1 dX12_pulls_49 rfl ?_
          refine mf_cVi (rest := []) [.int a1] (aX12_wrongPoints (d + 3) q hM a1) mY_X12_wrongPoints dX12_pulls_50 ml_X12_351 (mo_o hM) rfl rfl (Nat.le_of_ble_eq_true rfl) rfl (fun v5 => ?_)
          refine mf_istore_n [(2, .int v5), (0, .ref 218), (1, .int a1)] dX12_pulls_53 (Nat.le_of_ble_eq_true rfl) rfl ?_
          refine mf_aload_n 1 dX12_pulls_54 rfl ?_
          refine mf_iload_n 2 dX12_pulls_55 rfl ?_
          refine mf_cVi (rest := []) [.int a1] (aX12_rivals (d + 2) q hM a1) mY_X12_rivals dX12_pulls_56 ml_X12_348 (mo_o hM) rfl rfl (Nat.le_of_ble_eq_true rfl) rfl (fun v6 => ?_)
          refine mf_istore_n [(3, .int v6), (2, .int v5), (0, .ref 218), (1, .int a1)] dX12_pulls_59 (Nat.le_of_ble_eq_true rfl) rfl ?_
          refine mf_iconst (v := 0) dX12_pulls_60 rfl ?_
          refine mf_istore [(4, .int 0), (3, .int v6), (2, .int v5), (0, .ref 218), (1, .int a1)] dX12_pulls_61 (Nat.le_of_ble_eq_true rfl) rfl ?_
          refine mf_sub [3, 2, 1, 0] rfl ?_
          refine mf_lz2 (lv := fun x7 x8 => [(0, .ref 218), (2, .int v5), (3, .int x7), (4, .int x8)]) (fun L63 h63 x7 x8 => ?_) _ _ _
          show MF rI (yX12_pulls.cls, cX12_pulls, 6, (some .int), yX12_pulls.name, d + 5, 0, 0) 63 [(0, .ref 218), (2, .int v5), (3, .int x7), (4, .int x8)] [] q _
          refine mf_iload 3 dX12_pulls_63 rfl ?_
          refine mf_aload_n 0 dX12_pulls_65 rfl ?_
          refine mf_getr 12 6 dX12_pulls_66 fl_X12_33 (by decide) (by decide) rfl (mo_o hM) (mo_r6 hM) (by decide) ?_
          refine mf_iconst (v := 1) dX12_pulls_69 rfl ?_
          refine mf_iald dX12_pulls_70 (mo_a6 hM) (fun v9 => ?_)
          refine mf_icmp_ge (tgt := 133) dX12_pulls_71 (by decide) ?_ ?_
          · refine mf_iload_n 2 dX12_pulls_133 rfl ?_
            refine mf_aload_n 0 dX12_pulls_134 rfl ?_
            refine mf_cVi (rest := [.int x7]) [] (aX12_busy (d + 3) q hM) mY_X12_busy dX12_pulls_135 ml_X12_345 (mo_o hM) rfl rfl (Nat.le_of_ble_eq_true rfl) rfl (fun v10 => ?_)
            refine mf_iand dX12_pulls_138 ?_
            refine mf_istore_n [(3, .int (x7 &&& v10)), (0, .ref 218), (2, .int v5), (4, .int x8)] dX12_pulls_139 (Nat.le_of_ble_eq_true rfl) rfl ?_
            refine mf_iconst (v := 0) dX12_pulls_140 rfl ?_
            refine mf_istore [(4, .int 0), (3, .int (x7 &&& v10)), (0, .ref 218), (2, .int v5)] dX12_pulls_141 (Nat.le_of_ble_eq_true rfl) rfl ?_
            refine mf_sub [2, 3, 1, 0] rfl ?_
            refine mf_lz1 (lv := fun x11 => [(0, .ref 218), (2, .int v5), (3, .int (x7 &&& v10)), (4, .int x11)]) (fun L143 h143 x11 => ?_) _ _
            show MF rI (yX12_pulls.cls, cX12_pulls, 6, (some .int), yX12_pulls.name, d + 5, 0, 0) 143 [(0, .ref 218), (2, .int v5), (3, .int (x7 &&& v10)), (4, .int x11)] [] q _
            refine mf_iload 3 dX12_pulls_143 rfl ?_
            refine mf_aload_n 0 dX12_pulls_145 rfl ?_
            refine mf_getr 12 6 dX12_pulls_146 fl_X12_33 (by decide) (by decide) rfl (mo_o hM) (mo_r6 hM) (by decide) ?_
            refine mf_iconst (v := 4) dX12_pulls_149 rfl ?_
            refine mf_iald dX12_pulls_150 (mo_a6 hM) (fun v12 => ?_)
            refine mf_icmp_ge (tgt := 195) dX12_pulls_151 (by decide) ?_ ?_
            · refine mf_aload_n 0 dX12_pulls_195 rfl ?_
              refine mf_iconst (v := 0) dX12_pulls_196 rfl ?_
              refine mf_puti 12 25 dX12_pulls_197 fl_X12_59 (by decide) (by decide) rfl rfl (mo_o hM) ?_
              refine mf_iconst (v := 0) dX12_pulls_200 rfl ?_
              refine mf_istore [(4, .int 0), (0, .ref 218), (2, .int v5), (3, .int (x7 &&& v10))] dX12_pulls_201 (Nat.le_of_ble_eq_true rfl) rfl ?_
              refine mf_sub [1, 2, 3, 0] rfl ?_
              refine mf_lz1 (lv := fun x13 => [(0, .ref 218), (2, .int v5), (3, .int (x7 &&& v10)), (4, .int x13)]) (fun L203 h203 x13 => ?_) _ _
              show MF rI (yX12_pulls.cls, cX12_pulls, 6, (some .int), yX12_pulls.name, d + 5, 0, 0) 203 [(0, .ref 218), (2, .int v5), (3, .int (x7 &&& v10)), (4, .int x13)] [] q _
              refine mf_iload 3 dX12_pulls_203 rfl ?_
              refine mf_bipush (v := 16) dX12_pulls_205 (by decide) ?_
              refine mf_icmp_ge (tgt := 287) dX12_pulls_207 (by decide) ?_ ?_
              · refine mf_aload_n 0 dX12_pulls_287 rfl ?_
                refine mf_geti 12 25 dX12_pulls_288 fl_X12_59 (by decide) (by decide) rfl (mo_o hM) (fun v14 => ?_)
                exact mf_ireturn dX12_pulls_291 rfl rfl ⟨rfl, rfl⟩
              · refine mf_iload 3 dX12_pulls_210 rfl ?_
                refine mf_bipush (v := 10) dX12_pulls_212 (by decide) ?_
                refine mf_jo1 (pj := 235) (lvj := fun w15 => [(0, .ref 218), (2, .int v5), (3, .int (x7 &&& v10)), (4, .int x13)]) (stj := fun w15 => [.int w15]) (fun w15 => ?_) (fun J235 hJ235 => ?_)
                · show MF rI (yX12_pulls.cls, cX12_pulls, 6, (some .int), yX12_pulls.name, d + 5, 0, 0) 235 [(0, .ref 218), (2, .int v5), (3, .int (x7 &&& v10)), (4, .int x13)] [.int w15] q _
                  refine mf_istore [(5, .int w15), (0, .ref 218), (2, .int v5), (3, .int (x7 &&& v10)), (4, .int x13)] dX12_pulls_235 (Nat.le_of_ble_eq_true rfl) rfl ?_
                  refine mf_iload 0 dX12_pulls_237 rfl ?_
                  refine mf_if_ne (tgt := 245) dX12_pulls_239 (by decide) ?_ ?_
                  · refine mf_aload_n 1 dX12_pulls_245 rfl ?_
                    refine mf_getr 12 24 dX12_pulls_246 fl_X12_56 (by decide) (by decide) rfl (mo_o hM) (mo_r24 hM) (by decide) ?_
                    refine mf_aload_n 1 dX12_pulls_249 rfl ?_
                    refine mf_geti 12 25 dX12_pulls_250 fl_X12_59 (by decide) (by decide) rfl (mo_o hM) (fun v16 => ?_)
                    refine mf_iload 4 dX12_pulls_253 rfl ?_
                    refine mf_bipush (v := 10) dX12_pulls_255 (by decide) ?_
                    refine mf_icmp_ge (tgt := 265) dX12_pulls_257 (by decide) ?_ ?_
                    · refine mf_bipush (v := 6) dX12_pulls_265 (by decide) ?_
                      refine mf_iload 4 dX12_pulls_267 rfl ?_
                      refine mf_iadd dX12_pulls_269 ?_
                      refine mf_iast dX12_pulls_270 (mo_a24 hM) ?_
                      refine mf_aload_n 1 dX12_pulls_271 rfl ?_
                      refine mf_dup dX12_pulls_272 rfl ?_
                      refine mf_geti 12 25 dX12_pulls_273 fl_X12_59 (by decide) (by decide) rfl (mo_o hM) (fun v17 => ?_)
                      refine mf_iconst (v := 1) dX12_pulls_276 rfl ?_
                      refine mf_iadd dX12_pulls_277 ?_
                      refine mf_puti 12 25 dX12_pulls_278 fl_X12_59 (by decide) (by decide) rfl rfl (mo_o hM) ?_
                      refine mf_iinc 4 (x13 + 1) [(4, .int (x13 + 1)), (5, .int w15), (0, .ref 218), (2, .int v5), (3, .int (x7 &&& v10))] dX12_pulls_281 rfl rfl (Nat.le_of_ble_eq_true rfl) rfl ?_
                      refine mf_goto (tgt := 203) dX12_pulls_284 (by decide) ?_
                      refine mf_sub [2, 3, 4, 0] rfl ?_
                      exact h203 _
                    · refine mf_iload 4 dX12_pulls_260 rfl ?_
                      refine mf_goto (tgt := 270) dX12_pulls_262 (by decide) ?_
                      refine mf_iast dX12_pulls_270 (mo_a24 hM) ?_
                      refine mf_aload_n 1 dX12_pulls_271 rfl ?_
                      refine mf_dup dX12_pulls_272 rfl ?_
                      refine mf_geti 12 25 dX12_pulls_273 fl_X12_59 (by decide) (by decide) rfl (mo_o hM) (fun v18 => ?_)
                      refine mf_iconst (v := 1) dX12_pulls_276 rfl ?_
                      refine mf_iadd dX12_pulls_277 ?_
                      refine mf_puti 12 25 dX12_pulls_278 fl_X12_59 (by decide) (by decide) rfl rfl (mo_o hM) ?_
                      refine mf_iinc 4 (x13 + 1) [(4, .int (x13 + 1)), (5, .int w15), (0, .ref 218), (2, .int v5), (3, .int (x7 &&& v10))] dX12_pulls_281 rfl rfl (Nat.le_of_ble_eq_true rfl) rfl ?_
                      refine mf_goto (tgt := 203) dX12_pulls_284 (by decide) ?_
                      refine mf_sub [2, 3, 4, 0] rfl ?_
                      exact h203 _
                  · refine mf_goto (tgt := 281) dX12_pulls_242 (by decide) ?_
                    refine mf_iinc 4 (x13 + 1) [(4, .int (x13 + 1)), (5, .int w15), (0, .ref 218), (2, .int v5), (3, .int (x7 &&& v10))] dX12_pulls_281 rfl rfl (Nat.le_of_ble_eq_true rfl) rfl ?_
                    refine mf_goto (tgt := 203) dX12_pulls_284 (by decide) ?_
                    refine mf_sub [2, 3, 4, 0] rfl ?_
                    exact h203 _
                refine mf_icmp_ge (tgt := 226) dX12_pulls_214 (by decide) ?_ ?_
                · refine mf_iload_n 1 dX12_pulls_226 rfl ?_
                  refine mf_iload 3 dX12_pulls_227 rfl ?_
                  refine mf_bipush (v := 10) dX12_pulls_229 (by decide) ?_
                  refine mf_isub dX12_pulls_231 ?_
                  refine mf_cSi (rest := []) [.int v5, .int (x13 - 10)] (aX12_bitOf (d + 3) q v5 (x13 - 10)) mY_X12_bitOf dX12_pulls_232 ml_X12_280 rfl rfl (Nat.le_of_ble_eq_true rfl) rfl (fun v19 => ?_)
                  exact hJ235 _
                · refine mf_iload_n 2 dX12_pulls_217 rfl ?_
                  refine mf_iload 3 dX12_pulls_218 rfl ?_
                  refine mf_cSi (rest := []) [.int (x7 &&& v10), .int x13] (aX12_bitOf (d + 3) q (x7 &&& v10) x13) mY_X12_bitOf dX12_pulls_220 ml_X12_280 rfl rfl (Nat.le_of_ble_eq_true rfl) rfl (fun v20 => ?_)
                  refine mf_goto (tgt := 235) dX12_pulls_223 (by decide) ?_
                  exact hJ235 _
            · refine mf_iload_n 2 dX12_pulls_154 rfl ?_
              refine mf_iload 3 dX12_pulls_155 rfl ?_
              refine mf_cSi (rest := []) [.int (x7 &&& v10), .int x11] (aX12_bitOf (d + 3) q (x7 &&& v10) x11) mY_X12_bitOf dX12_pulls_157 ml_X12_280 rfl rfl (Nat.le_of_ble_eq_true rfl) rfl (fun v21 => ?_)
              refine mf_if_eq (tgt := 189) dX12_pulls_160 (by decide) ?_ ?_
              · refine mf_iinc 3 (x11 + 1) [(4, .int (x11 + 1)), (0, .ref 218), (2, .int v5), (3, .int (x7 &&& v10))] dX12_pulls_189 rfl rfl (Nat.le_of_ble_eq_true rfl) rfl ?_
                refine mf_goto (tgt := 143) dX12_pulls_192 (by decide) ?_
                refine mf_sub [1, 2, 3, 0] rfl ?_
                exact h143 _
              · refine mf_aload_n 0 dX12_pulls_163 rfl ?_
                refine mf_getr 12 6 dX12_pulls_164 fl_X12_33 (by decide) (by decide) rfl (mo_o hM) (mo_r6 hM) (by decide) ?_
                refine mf_sipush (v := 229) dX12_pulls_167 (by decide) ?_
                refine mf_iload 3 dX12_pulls_170 rfl ?_
                refine mf_iadd dX12_pulls_172 ?_
                refine mf_iald dX12_pulls_173 (mo_a6 hM) (fun v22 => ?_)
                refine mf_iconst (v := 1) dX12_pulls_174 rfl ?_
                refine mf_icmp_ne (tgt := 187) dX12_pulls_175 (by decide) ?_ ?_
                · refine mf_iconst (v := -1) dX12_pulls_187 rfl ?_
                  exact mf_ireturn dX12_pulls_188 rfl rfl ⟨rfl, rfl⟩
                · refine mf_aload_n 0 dX12_pulls_178 rfl ?_
                  refine mf_iload 3 dX12_pulls_179 rfl ?_
                  refine mf_cVi (rest := []) [.int x11] (aX12_isMet (d + 2) q hM x11) mY_X12_isMet dX12_pulls_181 ml_X12_357 (mo_o hM) rfl rfl (Nat.le_of_ble_eq_true rfl) rfl (fun v23 => ?_)
                  refine mf_if_eq (tgt := 189) dX12_pulls_184 (by decide) ?_ ?_
                  · refine mf_iinc 3 (x11 + 1) [(4, .int (x11 + 1)), (0, .ref 218), (2, .int v5), (3, .int (x7 &&& v10))] dX12_pulls_189 rfl rfl (Nat.le_of_ble_eq_true rfl) rfl ?_
                    refine mf_goto (tgt := 143) dX12_pulls_192 (by decide) ?_
                    refine mf_sub [1, 2, 3, 0] rfl ?_
                    exact h143 _
                  · refine mf_iconst (v := -1) dX12_pulls_187 rfl ?_
                    exact mf_ireturn dX12_pulls_188 rfl rfl ⟨rfl, rfl⟩
          · refine mf_iload_n 1 dX12_pulls_74 rfl ?_
            refine mf_iload 3 dX12_pulls_75 rfl ?_
            refine mf_cSi (rest := []) [.int v5, .int x8] (aX12_bitOf (d + 3) q v5 x8) mY_X12_bitOf dX12_pulls_77 ml_X12_280 rfl rfl (Nat.le_of_ble_eq_true rfl) rfl (fun v24 => ?_)
            refine mf_if_ne (tgt := 86) dX12_pulls_80 (by decide) ?_ ?_
            · refine mf_aload_n 0 dX12_pulls_86 rfl ?_
              refine mf_aload_n 0 dX12_pulls_87 rfl ?_
              refine mf_getr 12 6 dX12_pulls_88 fl_X12_33 (by decide) (by decide) rfl (mo_o hM) (mo_r6 hM) (by decide) ?_
              refine mf_bipush (v := 20) dX12_pulls_91 (by decide) ?_
              refine mf_iload 3 dX12_pulls_93 rfl ?_
              refine mf_iadd dX12_pulls_95 ?_
              refine mf_iald dX12_pulls_96 (mo_a6 hM) (fun v25 => ?_)
              refine mf_cVi (rest := []) [.int v25] (aX12_showsFull (d + 1) q hM v25) mY_X12_showsFull dX12_pulls_97 ml_X12_314 (mo_o hM) rfl rfl (Nat.le_of_ble_eq_true rfl) rfl (fun v26 => ?_)
              refine mf_if_eq (tgt := 105) dX12_pulls_100 (by decide) ?_ ?_
              · refine mf_iload_n 2 dX12_pulls_105 rfl ?_
                refine mf_aload_n 0 dX12_pulls_106 rfl ?_
                refine mf_iload 3 dX12_pulls_107 rfl ?_
                refine mf_sipush (v := 186) dX12_pulls_109 (by decide) ?_
                refine mf_cVi (rest := [.int x7]) [.int x8, .int 186] (aX12_wanting (d + 2) q hM x8 186) mY_X12_wanting dX12_pulls_112 ml_X12_320 (mo_o hM) rfl rfl (Nat.le_of_ble_eq_true rfl) rfl (fun v27 => ?_)
                refine mf_aload_n 0 dX12_pulls_115 rfl ?_
                refine mf_iload 3 dX12_pulls_116 rfl ?_
                refine mf_sipush (v := 196) dX12_pulls_118 (by decide) ?_
                refine mf_cVi (rest := [.int v27, .int x7]) [.int x8, .int 196] (aX12_wanting (d + 2) q hM x8 196) mY_X12_wanting dX12_pulls_121 ml_X12_320 (mo_o hM) rfl rfl (Nat.le_of_ble_eq_true rfl) rfl (fun v28 => ?_)
                refine mf_ior dX12_pulls_124 ?_
                refine mf_ior dX12_pulls_125 ?_
                refine mf_istore_n [(3, .int (x7 ||| (v27 ||| v28))), (0, .ref 218), (2, .int v5), (4, .int x8)] dX12_pulls_126 (Nat.le_of_ble_eq_true rfl) rfl ?_
                refine mf_iinc 3 (x8 + 1) [(4, .int (x8 + 1)), (3, .int (x7 ||| (v27 ||| v28))), (0, .ref 218), (2, .int v5)] dX12_pulls_127 rfl rfl (Nat.le_of_ble_eq_true rfl) rfl ?_
                refine mf_goto (tgt := 63) dX12_pulls_130 (by decide) ?_
                refine mf_sub [2, 3, 1, 0] rfl ?_
                exact h63 _ _
              · refine mf_iconst (v := -1) dX12_pulls_103 rfl ?_
                exact mf_ireturn dX12_pulls_104 rfl rfl ⟨rfl, rfl⟩
            · refine mf_goto (tgt := 127) dX12_pulls_83 (by decide) ?_
              refine mf_iinc 3 (x8 + 1) [(4, .int (x8 + 1)), (0, .ref 218), (2, .int v5), (3, .int x7)] dX12_pulls_127 rfl rfl (Nat.le_of_ble_eq_true rfl) rfl ?_
              refine mf_goto (tgt := 63) dX12_pulls_130 (by decide) ?_
              refine mf_sub [1, 2, 3, 0] rfl ?_
              exact h63 _ _
        · refine mf_iconst (v := -1) dX12_pulls_46 rfl ?_
          exact mf_ireturn dX12_pulls_47 rfl rfl ⟨rfl, rfl⟩
set_option maxRecDepth 100000 in
set_option maxHeartbeats 4000000 in
theorem aX12_pullsAt (d : Nat) (q : m_S) (hM : isM q) (a1 : Int32) : AC rI yX12_pullsAt cX12_pullsAt 2 (some .int) (d + 2) [.ref 218, .int a1] q (fX12_pullsAt a1) := by
  refine ac_of (by decide +kernel) (Nat.le_of_ble_eq_true rfl) ?_
  unfold fX12_pullsAt
  show MF rI (yX12_pullsAt.cls, cX12_pullsAt, 2, (some .int), yX12_pullsAt.name, d + 2, 0, 0) 0 [(0, .ref 218), (1, .int a1)] [] q _
  refine mf_aload_n 0 dX12_pullsAt_0 rfl ?_
  refine mf_iconst (v := 0) dX12_pullsAt_1 rfl ?_
  refine mf_puti 12 0 dX12_pullsAt_2 fl_X12_1 (by decide) (by decide) rfl rfl (mo_o hM) ?_
  refine mf_iload_n 1 dX12_pullsAt_5 rfl ?_
  refine mf_iconst (v := 0) dX12_pullsAt_6 rfl ?_
  refine mf_aload_n 0 dX12_pullsAt_7 rfl ?_
  refine mf_geti 12 25 dX12_pullsAt_8 fl_X12_59 (by decide) (by decide) rfl (mo_o hM) (fun v1 => ?_)
  refine mf_iconst (v := 1) dX12_pullsAt_11 rfl ?_
  refine mf_isub dX12_pullsAt_12 ?_
  refine mf_cSi (rest := []) [.int a1, .int 0, .int (v1 - 1)] (aX12_isIn (d + 0) q a1 0 (v1 - 1)) mY_X12_isIn dX12_pullsAt_13 ml_X12_211 rfl rfl (Nat.le_of_ble_eq_true rfl) rfl (fun v2 => ?_)
  refine mf_if_eq (tgt := 28) dX12_pullsAt_16 (by decide) ?_ ?_
  · refine mf_iconst (v := -1) dX12_pullsAt_28 rfl ?_
    exact mf_ireturn dX12_pullsAt_29 rfl rfl ⟨rfl, rfl⟩
  · refine mf_aload_n 0 dX12_pullsAt_19 rfl ?_
    refine mf_getr 12 24 dX12_pullsAt_20 fl_X12_56 (by decide) (by decide) rfl (mo_o hM) (mo_r24 hM) (by decide) ?_
    refine mf_iload_n 1 dX12_pullsAt_23 rfl ?_
    refine mf_iald dX12_pullsAt_24 (mo_a24 hM) (fun v3 => ?_)
    refine mf_goto (tgt := 29) dX12_pullsAt_25 (by decide) ?_
    exact mf_ireturn dX12_pullsAt_29 rfl rfl ⟨rfl, rfl⟩
set_option maxRecDepth 100000 in
set_option maxHeartbeats 4000000 in
theorem aX12_areTogether (d : Nat) (q : m_S) (hM : isM q) (a1 : Int32) : AC rI yX12_areTogether cX12_areTogether 4 (some .boolean) (d + 4) [.ref 218, .int a1] q (fX12_areTogether a1) := by
  refine ac_of (by decide +kernel) (Nat.le_of_ble_eq_true rfl) ?_
  unfold fX12_areTogether
  show MF rI (yX12_areTogether.cls, cX12_areTogether, 4, (some .boolean), yX12_areTogether.name, d + 4, 0, 0) 0 [(0, .ref 218), (1, .int a1)] [] q _
  refine mf_iconst (v := 1) dX12_areTogether_0 rfl ?_
  refine mf_istore_n [(2, .int 1), (0, .ref 218), (1, .int a1)] dX12_areTogether_1 (Nat.le_of_ble_eq_true rfl) rfl ?_
  refine mf_iconst (v := 0) dX12_areTogether_2 rfl ?_
  refine mf_istore_n [(3, .int 0), (2, .int 1), (0, .ref 218), (1, .int a1)] dX12_areTogether_3 (Nat.le_of_ble_eq_true rfl) rfl ?_
  refine mf_sub [2, 3, 1, 0] rfl ?_
  refine mf_lz2 (lv := fun x1 x2 => [(0, .ref 218), (1, .int a1), (2, .int x1), (3, .int x2)]) (fun L4 h4 x1 x2 => ?_) _ _ _
  show MF rI (yX12_areTogether.cls, cX12_areTogether, 4, (some .boolean), yX12_areTogether.name, d + 4, 0, 0) 4 [(0, .ref 218), (1, .int a1), (2, .int x1), (3, .int x2)] [] q _
  refine mf_iload_n 3 dX12_areTogether_4 rfl ?_
  refine mf_aload_n 0 dX12_areTogether_5 rfl ?_
  refine mf_getr 12 6 dX12_areTogether_6 fl_X12_33 (by decide) (by decide) rfl (mo_o hM) (mo_r6 hM) (by decide) ?_
  refine mf_iconst (v := 4) dX12_areTogether_9 rfl ?_
  refine mf_iald dX12_areTogether_10 (mo_a6 hM) (fun v3 => ?_)
  refine mf_icmp_ge (tgt := 48) dX12_areTogether_11 (by decide) ?_ ?_
  · refine mf_iload_n 2 dX12_areTogether_48 rfl ?_
    exact mf_zreturn dX12_areTogether_49 rfl ⟨rfl, rfl⟩
  · refine mf_iload_n 2 dX12_areTogether_14 rfl ?_
    refine mf_if_eq (tgt := 48) dX12_areTogether_15 (by decide) ?_ ?_
    · refine mf_iload_n 2 dX12_areTogether_48 rfl ?_
      exact mf_zreturn dX12_areTogether_49 rfl ⟨rfl, rfl⟩
    · refine mf_iload_n 1 dX12_areTogether_18 rfl ?_
      refine mf_iload_n 3 dX12_areTogether_19 rfl ?_
      refine mf_cSi (rest := []) [.int a1, .int x2] (aX12_bitOf (d + 2) q a1 x2) mY_X12_bitOf dX12_areTogether_20 ml_X12_280 rfl rfl (Nat.le_of_ble_eq_true rfl) rfl (fun v4 => ?_)
      refine mf_if_eq (tgt := 36) dX12_areTogether_23 (by decide) ?_ ?_
      · refine mf_iconst (v := 1) dX12_areTogether_36 rfl ?_
        refine mf_goto (tgt := 41) dX12_areTogether_37 (by decide) ?_
        refine mf_istore_n [(2, .int 1), (0, .ref 218), (1, .int a1), (3, .int x2)] dX12_areTogether_41 (Nat.le_of_ble_eq_true rfl) rfl ?_
        refine mf_iinc 3 (x2 + 1) [(3, .int (x2 + 1)), (2, .int 1), (0, .ref 218), (1, .int a1)] dX12_areTogether_42 rfl rfl (Nat.le_of_ble_eq_true rfl) rfl ?_
        refine mf_goto (tgt := 4) dX12_areTogether_45 (by decide) ?_
        refine mf_sub [2, 3, 1, 0] rfl ?_
        exact h4 _ _
      · refine mf_aload_n 0 dX12_areTogether_26 rfl ?_
        refine mf_iload_n 3 dX12_areTogether_27 rfl ?_
        refine mf_cVi (rest := []) [.int x2] (aX12_conflictsOf (d + 0) q hM x2) mY_X12_conflictsOf dX12_areTogether_28 ml_X12_332 (mo_o hM) rfl rfl (Nat.le_of_ble_eq_true rfl) rfl (fun v5 => ?_)
        refine mf_iload_n 1 dX12_areTogether_31 rfl ?_
        refine mf_iand dX12_areTogether_32 ?_
        refine mf_if_ne (tgt := 40) dX12_areTogether_33 (by decide) ?_ ?_
        · refine mf_iconst (v := 0) dX12_areTogether_40 rfl ?_
          refine mf_istore_n [(2, .int 0), (0, .ref 218), (1, .int a1), (3, .int x2)] dX12_areTogether_41 (Nat.le_of_ble_eq_true rfl) rfl ?_
          refine mf_iinc 3 (x2 + 1) [(3, .int (x2 + 1)), (2, .int 0), (0, .ref 218), (1, .int a1)] dX12_areTogether_42 rfl rfl (Nat.le_of_ble_eq_true rfl) rfl ?_
          refine mf_goto (tgt := 4) dX12_areTogether_45 (by decide) ?_
          refine mf_sub [2, 3, 1, 0] rfl ?_
          exact h4 _ _
        · refine mf_iconst (v := 1) dX12_areTogether_36 rfl ?_
          refine mf_goto (tgt := 41) dX12_areTogether_37 (by decide) ?_
          refine mf_istore_n [(2, .int 1), (0, .ref 218), (1, .int a1), (3, .int x2)] dX12_areTogether_41 (Nat.le_of_ble_eq_true rfl) rfl ?_
          refine mf_iinc 3 (x2 + 1) [(3, .int (x2 + 1)), (2, .int 1), (0, .ref 218), (1, .int a1)] dX12_areTogether_42 rfl rfl (Nat.le_of_ble_eq_true rfl) rfl ?_
          refine mf_goto (tgt := 4) dX12_areTogether_45 (by decide) ?_
          refine mf_sub [2, 3, 1, 0] rfl ?_
          exact h4 _ _
set_option maxRecDepth 100000 in
set_option maxHeartbeats 4000000 in
theorem aX12_together (d : Nat) (q : m_S) (hM : isM q)  : AC rI yX12_together cX12_together 3 (some .int) (d + 5) [.ref 218] q (fX12_together ) := by
  refine ac_of (by decide +kernel) (Nat.le_of_ble_eq_true rfl) ?_
  unfold fX12_together
  show MF rI (yX12_together.cls, cX12_together, 3, (some .int), yX12_together.name, d + 5, 0, 0) 0 [(0, .ref 218)] [] q _
  refine mf_aload_n 0 dX12_together_0 rfl ?_
  refine mf_iconst (v := 0) dX12_together_1 rfl ?_
  refine mf_puti 12 0 dX12_together_2 fl_X12_1 (by decide) (by decide) rfl rfl (mo_o hM) ?_
  refine mf_iconst (v := 0) dX12_together_5 rfl ?_
  refine mf_istore_n [(1, .int 0), (0, .ref 218)] dX12_together_6 (Nat.le_of_ble_eq_true rfl) rfl ?_
  refine mf_iconst (v := 1) dX12_together_7 rfl ?_
  refine mf_istore_n [(2, .int 1), (1, .int 0), (0, .ref 218)] dX12_together_8 (Nat.le_of_ble_eq_true rfl) rfl ?_
  refine mf_sub [2, 1, 0] rfl ?_
  refine mf_lz2 (lv := fun x1 x2 => [(0, .ref 218), (1, .int x1), (2, .int x2)]) (fun L9 h9 x1 x2 => ?_) _ _ _
  show MF rI (yX12_together.cls, cX12_together, 3, (some .int), yX12_together.name, d + 5, 0, 0) 9 [(0, .ref 218), (1, .int x1), (2, .int x2)] [] q _
  refine mf_iload_n 2 dX12_together_9 rfl ?_
  refine mf_iconst (v := 1) dX12_together_10 rfl ?_
  refine mf_aload_n 0 dX12_together_11 rfl ?_
  refine mf_getr 12 6 dX12_together_12 fl_X12_33 (by decide) (by decide) rfl (mo_o hM) (mo_r6 hM) (by decide) ?_
  refine mf_iconst (v := 4) dX12_together_15 rfl ?_
  refine mf_iald dX12_together_16 (mo_a6 hM) (fun v3 => ?_)
  refine mf_ishl dX12_together_17 ?_
  refine mf_icmp_ge (tgt := 48) dX12_together_18 (by decide) ?_ ?_
  · refine mf_aload_n 0 dX12_together_48 rfl ?_
    refine mf_iconst (v := 1) dX12_together_49 rfl ?_
    refine mf_putzc 12 28 dX12_together_50 fl_X12_400 (by decide) (by decide) rfl rfl (mo_o hM) (by decide) ?_
    refine mf_aload_n 0 dX12_together_53 rfl ?_
    refine mf_iload_n 1 dX12_together_54 rfl ?_
    refine mf_puti 12 27 dX12_together_55 fl_X12_403 (by decide) (by decide) rfl rfl (mo_o hM) ?_
    refine mf_iload_n 1 dX12_together_58 rfl ?_
    refine mf_cSi (rest := []) [.int x1] (aX12_bits (d + 3) q x1) mY_X12_bits dX12_together_59 ml_X12_394 rfl rfl (Nat.le_of_ble_eq_true rfl) rfl (fun v4 => ?_)
    exact mf_ireturn dX12_together_62 rfl rfl ⟨rfl, rfl⟩
  · refine mf_iload_n 2 dX12_together_21 rfl ?_
    refine mf_cSi (rest := []) [.int x2] (aX12_bits (d + 3) q x2) mY_X12_bits dX12_together_22 ml_X12_394 rfl rfl (Nat.le_of_ble_eq_true rfl) rfl (fun v5 => ?_)
    refine mf_iload_n 1 dX12_together_25 rfl ?_
    refine mf_cSi (rest := [.int v5]) [.int x1] (aX12_bits (d + 3) q x1) mY_X12_bits dX12_together_26 ml_X12_394 rfl rfl (Nat.le_of_ble_eq_true rfl) rfl (fun v6 => ?_)
    refine mf_icmp_le (tgt := 42) dX12_together_29 (by decide) ?_ ?_
    · refine mf_iinc 2 (x2 + 1) [(2, .int (x2 + 1)), (0, .ref 218), (1, .int x1)] dX12_together_42 rfl rfl (Nat.le_of_ble_eq_true rfl) rfl ?_
      refine mf_goto (tgt := 9) dX12_together_45 (by decide) ?_
      refine mf_sub [1, 2, 0] rfl ?_
      exact h9 _ _
    · refine mf_aload_n 0 dX12_together_32 rfl ?_
      refine mf_iload_n 2 dX12_together_33 rfl ?_
      refine mf_cVi (rest := []) [.int x2] (aX12_areTogether (d + 0) q hM x2) mY_X12_areTogether dX12_together_34 ml_X12_397 (mo_o hM) rfl rfl (Nat.le_of_ble_eq_true rfl) rfl (fun v7 => ?_)
      refine mf_if_eq (tgt := 42) dX12_together_37 (by decide) ?_ ?_
      · refine mf_iinc 2 (x2 + 1) [(2, .int (x2 + 1)), (0, .ref 218), (1, .int x1)] dX12_together_42 rfl rfl (Nat.le_of_ble_eq_true rfl) rfl ?_
        refine mf_goto (tgt := 9) dX12_together_45 (by decide) ?_
        refine mf_sub [1, 2, 0] rfl ?_
        exact h9 _ _
      · refine mf_iload_n 2 dX12_together_40 rfl ?_
        refine mf_istore_n [(1, .int x2), (0, .ref 218), (2, .int x2)] dX12_together_41 (Nat.le_of_ble_eq_true rfl) rfl ?_
        refine mf_iinc 2 (x2 + 1) [(2, .int (x2 + 1)), (1, .int x2), (0, .ref 218)] dX12_together_42 rfl rfl (Nat.le_of_ble_eq_true rfl) rfl ?_
        refine mf_goto (tgt := 9) dX12_together_45 (by decide) ?_
        refine mf_sub [2, 1, 0] rfl ?_
        exact h9 _ _
set_option maxRecDepth 100000 in
set_option maxHeartbeats 4000000 in
theorem aX12_those (d : Nat) (q : m_S) (hM : isM q)  : AC rI yX12_those cX12_those 1 (some .int) (d + 1) [.ref 218] q (fX12_those ) := by
  refine ac_of (by decide +kernel) (Nat.le_of_ble_eq_true rfl) ?_
  unfold fX12_those
  show MF rI (yX12_those.cls, cX12_those, 1, (some .int), yX12_those.name, d + 1, 0, 0) 0 [(0, .ref 218)] [] q _
  refine mf_aload_n 0 dX12_those_0 rfl ?_
  refine mf_iconst (v := 0) dX12_those_1 rfl ?_
  refine mf_puti 12 0 dX12_those_2 fl_X12_1 (by decide) (by decide) rfl rfl (mo_o hM) ?_
  refine mf_aload_n 0 dX12_those_5 rfl ?_
  refine mf_geti 12 28 dX12_those_6 fl_X12_400 (by decide) (by decide) rfl (mo_o hM) (fun v1 => ?_)
  refine mf_if_eq (tgt := 19) dX12_those_9 (by decide) ?_ ?_
  · refine mf_iconst (v := -1) dX12_those_19 rfl ?_
    exact mf_ireturn dX12_those_20 rfl rfl ⟨rfl, rfl⟩
  · refine mf_aload_n 0 dX12_those_12 rfl ?_
    refine mf_geti 12 27 dX12_those_13 fl_X12_403 (by decide) (by decide) rfl (mo_o hM) (fun v2 => ?_)
    refine mf_goto (tgt := 20) dX12_those_16 (by decide) ?_
    exact mf_ireturn dX12_those_20 rfl rfl ⟨rfl, rfl⟩
