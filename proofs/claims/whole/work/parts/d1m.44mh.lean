set_option maxRecDepth 100000 in
set_option maxHeartbeats 4000000 in
theorem aX12_waitedInAll (d : Nat) (q : m_S) (hM : isM q)  : AC rI yX12_waitedInAll cX12_waitedInAll 3 (some .int) (d + 1) [.ref 218] q (fX12_waitedInAll ) := by
  refine ac_of (by decide +kernel) (Nat.le_of_ble_eq_true rfl) ?_
  unfold fX12_waitedInAll
  show MF rI (yX12_waitedInAll.cls, cX12_waitedInAll, 3, (some .int), yX12_waitedInAll.name, d + 1, 0, 0) 0 [(0, .ref 218)] [] q _
  refine mf_iconst (v := 0) dX12_waitedInAll_0 rfl ?_
  refine mf_istore_n [(1, .int 0), (0, .ref 218)] dX12_waitedInAll_1 (Nat.le_of_ble_eq_true rfl) rfl ?_
  refine mf_iconst (v := 0) dX12_waitedInAll_2 rfl ?_
  refine mf_istore_n [(2, .int 0), (1, .int 0), (0, .ref 218)] dX12_waitedInAll_3 (Nat.le_of_ble_eq_true rfl) rfl ?_
  refine mf_sub [2, 1, 0] rfl ?_
  refine mf_lz2 (lv := fun x1 x2 => [(0, .ref 218), (1, .int x1), (2, .int x2)]) (fun L4 h4 x1 x2 => ?_) _ _ _
  show MF rI (yX12_waitedInAll.cls, cX12_waitedInAll, 3, (some .int), yX12_waitedInAll.name, d + 1, 0, 0) 4 [(0, .ref 218), (1, .int x1), (2, .int x2)] [] q _
  refine mf_iload_n 2 dX12_waitedInAll_4 rfl ?_
  refine mf_aload_n 0 dX12_waitedInAll_5 rfl ?_
  refine mf_getr 12 6 dX12_waitedInAll_6 fl_X12_33 (by decide) (by decide) rfl (mo_o hM) (mo_r6 hM) (by decide) ?_
  refine mf_bipush (v := 6) dX12_waitedInAll_9 (by decide) ?_
  refine mf_iald dX12_waitedInAll_11 (mo_a6 hM) (fun v3 => ?_)
  refine mf_icmp_ge (tgt := 34) dX12_waitedInAll_12 (by decide) ?_ ?_
  · refine mf_iload_n 1 dX12_waitedInAll_34 rfl ?_
    exact mf_ireturn dX12_waitedInAll_35 rfl rfl ⟨rfl, rfl⟩
  · refine mf_iload_n 1 dX12_waitedInAll_15 rfl ?_
    refine mf_aload_n 0 dX12_waitedInAll_16 rfl ?_
    refine mf_getr 12 6 dX12_waitedInAll_17 fl_X12_33 (by decide) (by decide) rfl (mo_o hM) (mo_r6 hM) (by decide) ?_
    refine mf_sipush (v := 283) dX12_waitedInAll_20 (by decide) ?_
    refine mf_iload_n 2 dX12_waitedInAll_23 rfl ?_
    refine mf_iadd dX12_waitedInAll_24 ?_
    refine mf_iald dX12_waitedInAll_25 (mo_a6 hM) (fun v4 => ?_)
    refine mf_iadd dX12_waitedInAll_26 ?_
    refine mf_istore_n [(1, .int (x1 + v4)), (0, .ref 218), (2, .int x2)] dX12_waitedInAll_27 (Nat.le_of_ble_eq_true rfl) rfl ?_
    refine mf_iinc 2 (x2 + 1) [(2, .int (x2 + 1)), (1, .int (x1 + v4)), (0, .ref 218)] dX12_waitedInAll_28 rfl rfl (Nat.le_of_ble_eq_true rfl) rfl ?_
    refine mf_goto (tgt := 4) dX12_waitedInAll_31 (by decide) ?_
    refine mf_sub [2, 1, 0] rfl ?_
    exact h4 _ _
set_option maxRecDepth 100000 in
set_option maxHeartbeats 4000000 in
theorem aX12_mean (d : Nat) (q : m_S) (hM : isM q) (a1 : Int32) : AC rI yX12_mean cX12_mean 5 (some .int) (d + 2) [.ref 218, .int a1] q (fX12_mean a1) := by
  refine ac_of (by decide +kernel) (Nat.le_of_ble_eq_true rfl) ?_
  unfold fX12_mean
  show MF rI (yX12_mean.cls, cX12_mean, 5, (some .int), yX12_mean.name, d + 2, 0, 0) 0 [(0, .ref 218), (1, .int a1)] [] q _
  refine mf_aload_n 0 dX12_mean_0 rfl ?_
  refine mf_aload_n 0 dX12_mean_1 rfl ?_
  refine mf_getr 12 6 dX12_mean_2 fl_X12_33 (by decide) (by decide) rfl (mo_o hM) (mo_r6 hM) (by decide) ?_
  refine mf_bipush (v := 6) dX12_mean_5 (by decide) ?_
  refine mf_iald dX12_mean_7 (mo_a6 hM) (fun v1 => ?_)
  refine mf_jo1 (pj := 25) (lvj := fun w2 => [(0, .ref 218), (1, .int a1)]) (stj := fun w2 => [.int w2, .ref 218]) (fun w2 => ?_) (fun J25 hJ25 => ?_)
  · show MF rI (yX12_mean.cls, cX12_mean, 5, (some .int), yX12_mean.name, d + 2, 0, 0) 25 [(0, .ref 218), (1, .int a1)] [.int w2, .ref 218] q _
    refine mf_cVi (rest := []) [.int w2] (aX12_throwsIf (d + 0) q hM w2) mY_X12_throwsIf dX12_mean_25 ml_X12_338 (mo_o hM) rfl rfl (Nat.le_of_ble_eq_true rfl) rfl (fun v3 => ?_)
    refine mf_if_eq (tgt := 33) dX12_mean_28 (by decide) ?_ ?_
    · refine mf_aload_n 0 dX12_mean_33 rfl ?_
      refine mf_getr 12 6 dX12_mean_34 fl_X12_33 (by decide) (by decide) rfl (mo_o hM) (mo_r6 hM) (by decide) ?_
      refine mf_bipush (v := 6) dX12_mean_37 (by decide) ?_
      refine mf_iald dX12_mean_39 (mo_a6 hM) (fun v4 => ?_)
      refine mf_istore_n [(2, .int v4), (0, .ref 218), (1, .int a1)] dX12_mean_40 (Nat.le_of_ble_eq_true rfl) rfl ?_
      refine mf_aload_n 1 dX12_mean_41 rfl ?_
      refine mf_cVi (rest := []) [] (aX12_waitedInAll (d + 0) q hM) mY_X12_waitedInAll dX12_mean_42 ml_X12_446 (mo_o hM) rfl rfl (Nat.le_of_ble_eq_true rfl) rfl (fun v5 => ?_)
      refine mf_istore_n [(3, .int v5), (2, .int v4), (0, .ref 218), (1, .int a1)] dX12_mean_45 (Nat.le_of_ble_eq_true rfl) rfl ?_
      refine mf_sub [2, 3, 1, 0] rfl ?_
      refine mf_lz2 (lv := fun x6 x7 => [(0, .ref 218), (1, .int a1), (2, .int x6), (3, .int x7)]) (fun L46 h46 x6 x7 => ?_) _ _ _
      show MF rI (yX12_mean.cls, cX12_mean, 5, (some .int), yX12_mean.name, d + 2, 0, 0) 46 [(0, .ref 218), (1, .int a1), (2, .int x6), (3, .int x7)] [] q _
      refine mf_iload_n 3 dX12_mean_46 rfl ?_
      refine mf_if_eq (tgt := 63) dX12_mean_47 (by decide) ?_ ?_
      · refine mf_iload_n 1 dX12_mean_63 rfl ?_
        refine mf_if_ne (tgt := 74) dX12_mean_64 (by decide) ?_ ?_
        · refine mf_aload_n 0 dX12_mean_74 rfl ?_
          refine mf_getr 12 6 dX12_mean_75 fl_X12_33 (by decide) (by decide) rfl (mo_o hM) (mo_r6 hM) (by decide) ?_
          refine mf_bipush (v := 6) dX12_mean_78 (by decide) ?_
          refine mf_iald dX12_mean_80 (mo_a6 hM) (fun v8 => ?_)
          refine mf_iload_n 2 dX12_mean_81 rfl ?_
          refine mf_idiv dX12_mean_82 ?_
          exact mf_ireturn dX12_mean_83 rfl rfl ⟨rfl, rfl⟩
        · refine mf_aload_n 0 dX12_mean_67 rfl ?_
          refine mf_cVi (rest := []) [] (aX12_waitedInAll (d + 0) q hM) mY_X12_waitedInAll dX12_mean_68 ml_X12_446 (mo_o hM) rfl rfl (Nat.le_of_ble_eq_true rfl) rfl (fun v9 => ?_)
          refine mf_goto (tgt := 81) dX12_mean_71 (by decide) ?_
          refine mf_iload_n 2 dX12_mean_81 rfl ?_
          refine mf_idiv dX12_mean_82 ?_
          exact mf_ireturn dX12_mean_83 rfl rfl ⟨rfl, rfl⟩
      · refine mf_iload_n 2 dX12_mean_50 rfl ?_
        refine mf_iload_n 3 dX12_mean_51 rfl ?_
        refine mf_irem dX12_mean_52 ?_
        refine mf_istore [(4, .int (x6 - x6 / x7 * x7)), (0, .ref 218), (1, .int a1), (2, .int x6), (3, .int x7)] dX12_mean_53 (Nat.le_of_ble_eq_true rfl) rfl ?_
        refine mf_iload_n 4 dX12_mean_55 rfl ?_
        refine mf_istore_n [(2, .int x7), (4, .int (x6 - x6 / x7 * x7)), (0, .ref 218), (1, .int a1), (3, .int x7)] dX12_mean_56 (Nat.le_of_ble_eq_true rfl) rfl ?_
        refine mf_iload 1 dX12_mean_57 rfl ?_
        refine mf_istore_n [(3, .int (x6 - x6 / x7 * x7)), (2, .int x7), (4, .int (x6 - x6 / x7 * x7)), (0, .ref 218), (1, .int a1)] dX12_mean_59 (Nat.le_of_ble_eq_true rfl) rfl ?_
        refine mf_goto (tgt := 46) dX12_mean_60 (by decide) ?_
        refine mf_sub [3, 4, 1, 0] rfl ?_
        exact h46 _ _
    · refine mf_iconst (v := 0) dX12_mean_31 rfl ?_
      exact mf_ireturn dX12_mean_32 rfl rfl ⟨rfl, rfl⟩
  refine mf_if_eq (tgt := 20) dX12_mean_8 (by decide) ?_ ?_
  · refine mf_iconst (v := 1) dX12_mean_20 rfl ?_
    refine mf_goto (tgt := 25) dX12_mean_21 (by decide) ?_
    exact hJ25 _
  · refine mf_iload_n 1 dX12_mean_11 rfl ?_
    refine mf_iconst (v := 0) dX12_mean_12 rfl ?_
    refine mf_iconst (v := 1) dX12_mean_13 rfl ?_
    refine mf_cSi (rest := [.ref 218]) [.int a1, .int 0, .int 1] (aX12_isIn (d + 0) q a1 0 1) mY_X12_isIn dX12_mean_14 ml_X12_211 rfl rfl (Nat.le_of_ble_eq_true rfl) rfl (fun v10 => ?_)
    refine mf_if_ne (tgt := 24) dX12_mean_17 (by decide) ?_ ?_
    · refine mf_iconst (v := 0) dX12_mean_24 rfl ?_
      exact hJ25 _
    · refine mf_iconst (v := 1) dX12_mean_20 rfl ?_
      refine mf_goto (tgt := 25) dX12_mean_21 (by decide) ?_
      exact hJ25 _
set_option maxRecDepth 100000 in
set_option maxHeartbeats 4000000 in
theorem aX12_lays (d : Nat) (q : m_S) (hM : isM q) (a1 : Int32) : AC rU yX12_lays cX12_lays 2 none (d + 1) [.ref 218, .int a1] q (fX12_lays a1) := by
  refine ac_of (by decide +kernel) (Nat.le_of_ble_eq_true rfl) ?_
  unfold fX12_lays
  show MF rU (yX12_lays.cls, cX12_lays, 2, none, yX12_lays.name, d + 1, 0, 0) 0 [(0, .ref 218), (1, .int a1)] [] q _
  refine mf_aload_n 0 dX12_lays_0 rfl ?_
  refine mf_getr 12 35 dX12_lays_1 fl_X12_80 (by decide) (by decide) rfl (mo_o hM) (mo_r35 hM) (by decide) ?_
  refine mf_aload_n 0 dX12_lays_4 rfl ?_
  refine mf_geti 12 36 dX12_lays_5 fl_X12_449 (by decide) (by decide) rfl (mo_o hM) (fun v1 => ?_)
  refine mf_iload_n 1 dX12_lays_8 rfl ?_
  refine mf_i2b dX12_lays_9 ?_
  refine mf_bast dX12_lays_10 (mo_a35 hM) ?_
  refine mf_aload_n 0 dX12_lays_11 rfl ?_
  refine mf_dup dX12_lays_12 rfl ?_
  refine mf_geti 12 36 dX12_lays_13 fl_X12_449 (by decide) (by decide) rfl (mo_o hM) (fun v2 => ?_)
  refine mf_iconst (v := 1) dX12_lays_16 rfl ?_
  refine mf_iadd dX12_lays_17 ?_
  refine mf_puti 12 36 dX12_lays_18 fl_X12_449 (by decide) (by decide) rfl rfl (mo_o hM) ?_
  exact mf_return dX12_lays_21 rfl ⟨rfl, rfl⟩
set_option maxRecDepth 100000 in
set_option maxHeartbeats 4000000 in
theorem aX12_spells (d : Nat) (q : m_S) (hM : isM q) (a1 : Int64) : AC rU yX12_spells cX12_spells 4 none (d + 2) [.ref 218, .long a1] q (fX12_spells a1) := by
  refine ac_of (by decide +kernel) (Nat.le_of_ble_eq_true rfl) ?_
  unfold fX12_spells
  show MF rU (yX12_spells.cls, cX12_spells, 4, none, yX12_spells.name, d + 2, 0, 0) 0 [(0, .ref 218), (1, .long a1)] [] q _
  refine mf_bipush (v := 56) dX12_spells_0 (by decide) ?_
  refine mf_istore_n [(3, .int 56), (0, .ref 218), (1, .long a1)] dX12_spells_2 (Nat.le_of_ble_eq_true rfl) rfl ?_
  refine mf_sub [1, 2, 0] rfl ?_
  refine mf_lz1 (lv := fun x1 => [(0, .ref 218), (1, .long a1), (3, .int x1)]) (fun L3 h3 x1 => ?_) _ _
  show MF rU (yX12_spells.cls, cX12_spells, 4, none, yX12_spells.name, d + 2, 0, 0) 3 [(0, .ref 218), (1, .long a1), (3, .int x1)] [] q _
  refine mf_iload_n 2 dX12_spells_3 rfl ?_
  refine mf_if_lt (tgt := 37) dX12_spells_4 (by decide) ?_ ?_
  · exact mf_return dX12_spells_37 rfl ⟨rfl, rfl⟩
  · refine mf_lload_n 1 dX12_spells_7 rfl ?_
    refine mf_iload_n 2 dX12_spells_8 rfl ?_
    refine mf_lshr dX12_spells_9 ?_
    refine mf_ldc2 dX12_spells_10 cl_X12_452 ?_
    refine mf_land dX12_spells_13 ?_
    refine mf_lconst (v := 0) dX12_spells_14 (by decide) ?_
    refine mf_lcmp dX12_spells_15 ?_
    refine mf_if_eq (tgt := 31) dX12_spells_16 (by decide) ?_ ?_
    · refine mf_iinc 2 (x1 + (-8)) [(3, .int (x1 + (-8))), (0, .ref 218), (1, .long a1)] dX12_spells_31 rfl rfl (Nat.le_of_ble_eq_true rfl) rfl ?_
      refine mf_goto (tgt := 3) dX12_spells_34 (by decide) ?_
      refine mf_sub [1, 2, 0] rfl ?_
      exact h3 _
    · refine mf_aload_n 0 dX12_spells_19 rfl ?_
      refine mf_lload_n 1 dX12_spells_20 rfl ?_
      refine mf_iload_n 2 dX12_spells_21 rfl ?_
      refine mf_lshr dX12_spells_22 ?_
      refine mf_ldc2 dX12_spells_23 cl_X12_452 ?_
      refine mf_land dX12_spells_26 ?_
      refine mf_l2i dX12_spells_27 ?_
      refine mf_cVv (rest := []) [.int (((a1 >>> ((x1 : Int32).toInt64 &&& 63)) &&& 255).toInt32)] (aX12_lays (d + 0) q hM (((a1 >>> ((x1 : Int32).toInt64 &&& 63)) &&& 255).toInt32)) mY_X12_lays dX12_spells_28 ml_X12_454 (mo_o hM) rfl rfl (Nat.le_of_ble_eq_true rfl) rfl (fun _ => ?_)
      refine mf_iinc 2 (x1 + (-8)) [(3, .int (x1 + (-8))), (0, .ref 218), (1, .long a1)] dX12_spells_31 rfl rfl (Nat.le_of_ble_eq_true rfl) rfl ?_
      refine mf_goto (tgt := 3) dX12_spells_34 (by decide) ?_
      refine mf_sub [1, 2, 0] rfl ?_
      exact h3 _
set_option maxRecDepth 100000 in
set_option maxHeartbeats 4000000 in
theorem aX12_says (d : Nat) (q : m_S) (hM : isM q) (a1 : Int64) : AC rU yX12_says cX12_says 3 none (d + 3) [.ref 218, .long a1] q (fX12_says a1) := by
  refine ac_of (by decide +kernel) (Nat.le_of_ble_eq_true rfl) ?_
  unfold fX12_says
  show MF rU (yX12_says.cls, cX12_says, 3, none, yX12_says.name, d + 3, 0, 0) 0 [(0, .ref 218), (1, .long a1)] [] q _
  refine mf_aload_n 0 dX12_says_0 rfl ?_
  refine mf_bipush (v := 32) dX12_says_1 (by decide) ?_
  refine mf_cVv (rest := []) [.int 32] (aX12_lays (d + 1) q hM 32) mY_X12_lays dX12_says_3 ml_X12_454 (mo_o hM) rfl rfl (Nat.le_of_ble_eq_true rfl) rfl (fun _ => ?_)
  refine mf_aload_n 0 dX12_says_6 rfl ?_
  refine mf_lload_n 1 dX12_says_7 rfl ?_
  refine mf_cVv (rest := []) [.long a1] (aX12_spells (d + 0) q hM a1) mY_X12_spells dX12_says_8 ml_X12_457 (mo_o hM) rfl rfl (Nat.le_of_ble_eq_true rfl) rfl (fun _ => ?_)
  exact mf_return dX12_says_11 rfl ⟨rfl, rfl⟩
set_option maxRecDepth 100000 in
set_option maxHeartbeats 4000000 in
theorem aX12_tag (d : Nat) (q : m_S) (hM : isM q) (a1 : Int32) : AC rI yX12_tag cX12_tag 2 (some .int) (d + 4) [.ref 218, .int a1] q (fX12_tag a1) := by
  refine ac_of (by decide +kernel) (Nat.le_of_ble_eq_true rfl) ?_
  unfold fX12_tag
  show MF rI (yX12_tag.cls, cX12_tag, 2, (some .int), yX12_tag.name, d + 4, 0, 0) 0 [(0, .ref 218), (1, .int a1)] [] q _
  refine mf_aload_n 0 dX12_tag_0 rfl ?_
  refine mf_iconst (v := 0) dX12_tag_1 rfl ?_
  refine mf_puti 12 0 dX12_tag_2 fl_X12_1 (by decide) (by decide) rfl rfl (mo_o hM) ?_
  refine mf_aload_n 0 dX12_tag_5 rfl ?_
  refine mf_iload_n 1 dX12_tag_6 rfl ?_
  refine mf_cVi (rest := []) [.int a1] (aX12_isTrain (d + 1) q hM a1) mY_X12_isTrain dX12_tag_7 ml_X12_335 (mo_o hM) rfl rfl (Nat.le_of_ble_eq_true rfl) rfl (fun v1 => ?_)
  refine mf_if_ne (tgt := 15) dX12_tag_10 (by decide) ?_ ?_
  · refine mf_aload_n 0 dX12_tag_15 rfl ?_
    refine mf_iconst (v := 0) dX12_tag_16 rfl ?_
    refine mf_puti 12 36 dX12_tag_17 fl_X12_449 (by decide) (by decide) rfl rfl (mo_o hM) ?_
    refine mf_aload_n 0 dX12_tag_20 rfl ?_
    refine mf_aload_n 0 dX12_tag_21 rfl ?_
    refine mf_getr 12 9 dX12_tag_22 fl_X12_43 (by decide) (by decide) rfl (mo_o hM) (mo_r9 hM) (by decide) ?_
    refine mf_bipush (v := 36) dX12_tag_25 (by decide) ?_
    refine mf_iload_n 1 dX12_tag_27 rfl ?_
    refine mf_iadd dX12_tag_28 ?_
    refine mf_lald dX12_tag_29 (mo_a9 hM) (fun v2 => ?_)
    refine mf_cVv (rest := []) [.long v2] (aX12_spells (d + 1) q hM v2) mY_X12_spells dX12_tag_30 ml_X12_457 (mo_o hM) rfl rfl (Nat.le_of_ble_eq_true rfl) rfl (fun _ => ?_)
    refine mf_aload_n 0 dX12_tag_33 rfl ?_
    refine mf_getr 12 6 dX12_tag_34 fl_X12_33 (by decide) (by decide) rfl (mo_o hM) (mo_r6 hM) (by decide) ?_
    refine mf_sipush (v := 271) dX12_tag_37 (by decide) ?_
    refine mf_iload_n 1 dX12_tag_40 rfl ?_
    refine mf_iadd dX12_tag_41 ?_
    refine mf_iald dX12_tag_42 (mo_a6 hM) (fun v3 => ?_)
    refine mf_jo0 (pj := 84) (lvj := [(0, .ref 218), (1, .int a1)]) (stj := []) ?_ (fun J84 hJ84 => ?_)
    · show MF rI (yX12_tag.cls, cX12_tag, 2, (some .int), yX12_tag.name, d + 4, 0, 0) 84 [(0, .ref 218), (1, .int a1)] [] q _
      refine mf_aload_n 0 dX12_tag_84 rfl ?_
      refine mf_getr 12 6 dX12_tag_85 fl_X12_33 (by decide) (by decide) rfl (mo_o hM) (mo_r6 hM) (by decide) ?_
      refine mf_sipush (v := 281) dX12_tag_88 (by decide) ?_
      refine mf_iald dX12_tag_91 (mo_a6 hM) (fun v4 => ?_)
      refine mf_iload_n 1 dX12_tag_92 rfl ?_
      refine mf_cSi (rest := []) [.int v4, .int a1] (aX12_bitOf (d + 2) q v4 a1) mY_X12_bitOf dX12_tag_93 ml_X12_280 rfl rfl (Nat.le_of_ble_eq_true rfl) rfl (fun v5 => ?_)
      refine mf_if_eq (tgt := 109) dX12_tag_96 (by decide) ?_ ?_
      · refine mf_aload_n 0 dX12_tag_109 rfl ?_
        refine mf_getr 12 6 dX12_tag_110 fl_X12_33 (by decide) (by decide) rfl (mo_o hM) (mo_r6 hM) (by decide) ?_
        refine mf_sipush (v := 282) dX12_tag_113 (by decide) ?_
        refine mf_iald dX12_tag_116 (mo_a6 hM) (fun v6 => ?_)
        refine mf_iload_n 1 dX12_tag_117 rfl ?_
        refine mf_cSi (rest := []) [.int v6, .int a1] (aX12_bitOf (d + 2) q v6 a1) mY_X12_bitOf dX12_tag_118 ml_X12_280 rfl rfl (Nat.le_of_ble_eq_true rfl) rfl (fun v7 => ?_)
        refine mf_if_eq (tgt := 131) dX12_tag_121 (by decide) ?_ ?_
        · refine mf_aload_n 0 dX12_tag_131 rfl ?_
          refine mf_geti 12 36 dX12_tag_132 fl_X12_449 (by decide) (by decide) rfl (mo_o hM) (fun v8 => ?_)
          exact mf_ireturn dX12_tag_135 rfl rfl ⟨rfl, rfl⟩
        · refine mf_aload_n 0 dX12_tag_124 rfl ?_
          refine mf_ldc2 dX12_tag_125 cl_X12_464 ?_
          refine mf_cVv (rest := []) [.long 512735409267] (aX12_says (d + 0) q hM 512735409267) mY_X12_says dX12_tag_128 ml_X12_461 (mo_o hM) rfl rfl (Nat.le_of_ble_eq_true rfl) rfl (fun _ => ?_)
          refine mf_aload_n 0 dX12_tag_131 rfl ?_
          refine mf_geti 12 36 dX12_tag_132 fl_X12_449 (by decide) (by decide) rfl (mo_o hM) (fun v9 => ?_)
          exact mf_ireturn dX12_tag_135 rfl rfl ⟨rfl, rfl⟩
      · refine mf_aload_n 0 dX12_tag_99 rfl ?_
        refine mf_ldc2 dX12_tag_100 cl_X12_152 ?_
        refine mf_cVv (rest := []) [.long 27991785567970660] (aX12_says (d + 0) q hM 27991785567970660) mY_X12_says dX12_tag_103 ml_X12_461 (mo_o hM) rfl rfl (Nat.le_of_ble_eq_true rfl) rfl (fun _ => ?_)
        refine mf_goto (tgt := 131) dX12_tag_106 (by decide) ?_
        refine mf_aload_n 0 dX12_tag_131 rfl ?_
        refine mf_geti 12 36 dX12_tag_132 fl_X12_449 (by decide) (by decide) rfl (mo_o hM) (fun v10 => ?_)
        exact mf_ireturn dX12_tag_135 rfl rfl ⟨rfl, rfl⟩
    refine mf_if_ne (tgt := 56) dX12_tag_43 (by decide) ?_ ?_
    · refine mf_aload_n 0 dX12_tag_56 rfl ?_
      refine mf_ldc2 dX12_tag_57 cl_X12_156 ?_
      refine mf_cVv (rest := []) [.long 26990] (aX12_says (d + 0) q hM 26990) mY_X12_says dX12_tag_60 ml_X12_461 (mo_o hM) rfl rfl (Nat.le_of_ble_eq_true rfl) rfl (fun _ => ?_)
      refine mf_aload_n 0 dX12_tag_63 rfl ?_
      refine mf_aload_n 0 dX12_tag_64 rfl ?_
      refine mf_getr 12 9 dX12_tag_65 fl_X12_43 (by decide) (by decide) rfl (mo_o hM) (mo_r9 hM) (by decide) ?_
      refine mf_aload_n 0 dX12_tag_68 rfl ?_
      refine mf_getr 12 6 dX12_tag_69 fl_X12_33 (by decide) (by decide) rfl (mo_o hM) (mo_r6 hM) (by decide) ?_
      refine mf_sipush (v := 271) dX12_tag_72 (by decide) ?_
      refine mf_iload_n 1 dX12_tag_75 rfl ?_
      refine mf_iadd dX12_tag_76 ?_
      refine mf_iald dX12_tag_77 (mo_a6 hM) (fun v11 => ?_)
      refine mf_iconst (v := 1) dX12_tag_78 rfl ?_
      refine mf_isub dX12_tag_79 ?_
      refine mf_lald dX12_tag_80 (mo_a9 hM) (fun v12 => ?_)
      refine mf_cVv (rest := []) [.long v12] (aX12_says (d + 0) q hM v12) mY_X12_says dX12_tag_81 ml_X12_461 (mo_o hM) rfl rfl (Nat.le_of_ble_eq_true rfl) rfl (fun _ => ?_)
      exact hJ84
    · refine mf_aload_n 0 dX12_tag_46 rfl ?_
      refine mf_ldc2 dX12_tag_47 cl_X12_150 ?_
      refine mf_cVv (rest := []) [.long 7304564] (aX12_says (d + 0) q hM 7304564) mY_X12_says dX12_tag_50 ml_X12_461 (mo_o hM) rfl rfl (Nat.le_of_ble_eq_true rfl) rfl (fun _ => ?_)
      refine mf_goto (tgt := 84) dX12_tag_53 (by decide) ?_
      exact hJ84
  · refine mf_iconst (v := -1) dX12_tag_13 rfl ?_
    exact mf_ireturn dX12_tag_14 rfl rfl ⟨rfl, rfl⟩
set_option maxRecDepth 100000 in
set_option maxHeartbeats 4000000 in
theorem aX12_byteAt (d : Nat) (q : m_S) (hM : isM q) (a1 : Int32) : AC rI yX12_byteAt cX12_byteAt 2 (some .int) (d + 2) [.ref 218, .int a1] q (fX12_byteAt a1) := by
  refine ac_of (by decide +kernel) (Nat.le_of_ble_eq_true rfl) ?_
  unfold fX12_byteAt
  show MF rI (yX12_byteAt.cls, cX12_byteAt, 2, (some .int), yX12_byteAt.name, d + 2, 0, 0) 0 [(0, .ref 218), (1, .int a1)] [] q _
  refine mf_aload_n 0 dX12_byteAt_0 rfl ?_
  refine mf_iconst (v := 0) dX12_byteAt_1 rfl ?_
  refine mf_puti 12 0 dX12_byteAt_2 fl_X12_1 (by decide) (by decide) rfl rfl (mo_o hM) ?_
  refine mf_iload_n 1 dX12_byteAt_5 rfl ?_
  refine mf_iconst (v := 0) dX12_byteAt_6 rfl ?_
  refine mf_aload_n 0 dX12_byteAt_7 rfl ?_
  refine mf_geti 12 36 dX12_byteAt_8 fl_X12_449 (by decide) (by decide) rfl (mo_o hM) (fun v1 => ?_)
  refine mf_iconst (v := 1) dX12_byteAt_11 rfl ?_
  refine mf_isub dX12_byteAt_12 ?_
  refine mf_cSi (rest := []) [.int a1, .int 0, .int (v1 - 1)] (aX12_isIn (d + 0) q a1 0 (v1 - 1)) mY_X12_isIn dX12_byteAt_13 ml_X12_211 rfl rfl (Nat.le_of_ble_eq_true rfl) rfl (fun v2 => ?_)
  refine mf_if_eq (tgt := 28) dX12_byteAt_16 (by decide) ?_ ?_
  · refine mf_iconst (v := -1) dX12_byteAt_28 rfl ?_
    exact mf_ireturn dX12_byteAt_29 rfl rfl ⟨rfl, rfl⟩
  · refine mf_aload_n 0 dX12_byteAt_19 rfl ?_
    refine mf_getr 12 35 dX12_byteAt_20 fl_X12_80 (by decide) (by decide) rfl (mo_o hM) (mo_r35 hM) (by decide) ?_
    refine mf_iload_n 1 dX12_byteAt_23 rfl ?_
    refine mf_bald dX12_byteAt_24 (mo_a35 hM) (fun v3 => ?_)
    refine mf_goto (tgt := 29) dX12_byteAt_25 (by decide) ?_
    exact mf_ireturn dX12_byteAt_29 rfl rfl ⟨rfl, rfl⟩
set_option maxRecDepth 100000 in
set_option maxHeartbeats 4000000 in
theorem aX12_draw (d : Nat) (q : m_S) (hM : isM q) (a1 : Int32) : AC rI yX12_draw cX12_draw 2 (some .int) (d + 1) [.ref 218, .int a1] q (fX12_draw a1) := by
  refine ac_of (by decide +kernel) (Nat.le_of_ble_eq_true rfl) ?_
  unfold fX12_draw
  show MF rI (yX12_draw.cls, cX12_draw, 2, (some .int), yX12_draw.name, d + 1, 0, 0) 0 [(0, .ref 218), (1, .int a1)] [] q _
  refine mf_aload_n 0 dX12_draw_0 rfl ?_
  refine mf_aload_n 0 dX12_draw_1 rfl ?_
  refine mf_geti 12 37 dX12_draw_2 fl_X12_466 (by decide) (by decide) rfl (mo_o hM) (fun v1 => ?_)
  refine mf_ldc_w dX12_draw_5 cl_X12_469 ?_
  refine mf_imul dX12_draw_8 ?_
  refine mf_sipush (v := 12345) dX12_draw_9 (by decide) ?_
  refine mf_iadd dX12_draw_12 ?_
  refine mf_puti 12 37 dX12_draw_13 fl_X12_466 (by decide) (by decide) rfl rfl (mo_o hM) ?_
  refine mf_aload_n 0 dX12_draw_16 rfl ?_
  refine mf_geti 12 37 dX12_draw_17 fl_X12_466 (by decide) (by decide) rfl (mo_o hM) (fun v2 => ?_)
  refine mf_bipush (v := 8) dX12_draw_20 (by decide) ?_
  refine mf_iushr dX12_draw_22 ?_
  refine mf_iload_n 1 dX12_draw_23 rfl ?_
  refine mf_irem dX12_draw_24 ?_
  exact mf_ireturn dX12_draw_25 rfl rfl ⟨rfl, rfl⟩
set_option maxRecDepth 100000 in
set_option maxHeartbeats 4000000 in
theorem aX12_drawTick (d : Nat) (q : m_S) (hM : isM q)  : AC rU yX12_drawTick cX12_drawTick 3 none (d + 6) [.ref 218] q (fX12_drawTick ) := by
  refine ac_of (by decide +kernel) (Nat.le_of_ble_eq_true rfl) ?_
  unfold fX12_drawTick
  show MF rU (yX12_drawTick.cls, cX12_drawTick, 3, none, yX12_drawTick.name, d + 6, 0, 0) 0 [(0, .ref 218)] [] q _
  refine mf_aload_n 0 dX12_drawTick_0 rfl ?_
  refine mf_iconst (v := 4) dX12_drawTick_1 rfl ?_
  refine mf_cVi (rest := []) [.int 4] (aX12_draw (d + 4) q hM 4) mY_X12_draw dX12_drawTick_2 ml_X12_470 (mo_o hM) rfl rfl (Nat.le_of_ble_eq_true rfl) rfl (fun v1 => ?_)
  refine mf_istore_n [(1, .int v1), (0, .ref 218)] dX12_drawTick_5 (Nat.le_of_ble_eq_true rfl) rfl ?_
  refine mf_iload_n 0 dX12_drawTick_6 rfl ?_
  refine mf_iconst (v := 2) dX12_drawTick_7 rfl ?_
  refine mf_jo0 (pj := 72) (lvj := [(0, .ref 218), (1, .int v1)]) (stj := []) ?_ (fun J72 hJ72 => ?_)
  · show MF rU (yX12_drawTick.cls, cX12_drawTick, 3, none, yX12_drawTick.name, d + 6, 0, 0) 72 [(0, .ref 218), (1, .int v1)] [] q _
    refine mf_iload_n 1 dX12_drawTick_72 rfl ?_
    refine mf_iconst (v := 2) dX12_drawTick_73 rfl ?_
    refine mf_icmp_ne (tgt := 86) dX12_drawTick_74 (by decide) ?_ ?_
    · exact mf_return dX12_drawTick_86 rfl ⟨rfl, rfl⟩
    · refine mf_aload_n 0 dX12_drawTick_77 rfl ?_
      refine mf_getr 12 6 dX12_drawTick_78 fl_X12_33 (by decide) (by decide) rfl (mo_o hM) (mo_r6 hM) (by decide) ?_
      refine mf_iconst (v := 1) dX12_drawTick_81 rfl ?_
      refine mf_iald dX12_drawTick_82 (mo_a6 hM) (fun v2 => ?_)
      refine mf_if_ne (tgt := 87) dX12_drawTick_83 (by decide) ?_ ?_
      · refine mf_aload_n 0 dX12_drawTick_87 rfl ?_
        refine mf_aload_n 0 dX12_drawTick_88 rfl ?_
        refine mf_getr 12 6 dX12_drawTick_89 fl_X12_33 (by decide) (by decide) rfl (mo_o hM) (mo_r6 hM) (by decide) ?_
        refine mf_iconst (v := 1) dX12_drawTick_92 rfl ?_
        refine mf_iald dX12_drawTick_93 (mo_a6 hM) (fun v3 => ?_)
        refine mf_cVi (rest := []) [.int v3] (aX12_draw (d + 4) q hM v3) mY_X12_draw dX12_drawTick_94 ml_X12_470 (mo_o hM) rfl rfl (Nat.le_of_ble_eq_true rfl) rfl (fun v4 => ?_)
        refine mf_istore_n [(2, .int v4), (0, .ref 218), (1, .int v1)] dX12_drawTick_97 (Nat.le_of_ble_eq_true rfl) rfl ?_
        refine mf_aload_n 1 dX12_drawTick_98 rfl ?_
        refine mf_iload_n 0 dX12_drawTick_99 rfl ?_
        refine mf_cVi (rest := []) [.int v4] (aX12_whyThrow (d + 1) q hM v4) mY_X12_whyThrow dX12_drawTick_100 ml_X12_385 (mo_o hM) rfl rfl (Nat.le_of_ble_eq_true rfl) rfl (fun v5 => ?_)
        refine mf_if_ne (tgt := 120) dX12_drawTick_103 (by decide) ?_ ?_
        · exact mf_return dX12_drawTick_120 rfl ⟨rfl, rfl⟩
        · refine mf_aload_n 1 dX12_drawTick_106 rfl ?_
          refine mf_getr 12 6 dX12_drawTick_107 fl_X12_33 (by decide) (by decide) rfl (mo_o hM) (mo_r6 hM) (by decide) ?_
          refine mf_sipush (v := 228) dX12_drawTick_110 (by decide) ?_
          refine mf_dup2 dX12_drawTick_113 rfl rfl ?_
          refine mf_iald dX12_drawTick_114 (mo_a6 hM) (fun v6 => ?_)
          refine mf_iconst (v := 1) dX12_drawTick_115 rfl ?_
          refine mf_iload_n 0 dX12_drawTick_116 rfl ?_
          refine mf_ishl dX12_drawTick_117 ?_
          refine mf_ixor dX12_drawTick_118 ?_
          refine mf_iast dX12_drawTick_119 (mo_a6 hM) ?_
          exact mf_return dX12_drawTick_120 rfl ⟨rfl, rfl⟩
      · exact mf_return dX12_drawTick_86 rfl ⟨rfl, rfl⟩
  refine mf_icmp_ge (tgt := 72) dX12_drawTick_8 (by decide) ?_ ?_
  · refine mf_sub [1, 0] rfl ?_
    exact hJ72
  · refine mf_aload_n 1 dX12_drawTick_11 rfl ?_
    refine mf_getr 12 6 dX12_drawTick_12 fl_X12_33 (by decide) (by decide) rfl (mo_o hM) (mo_r6 hM) (by decide) ?_
    refine mf_iconst (v := 4) dX12_drawTick_15 rfl ?_
    refine mf_iald dX12_drawTick_16 (mo_a6 hM) (fun v7 => ?_)
    refine mf_if_le (tgt := 72) dX12_drawTick_17 (by decide) ?_ ?_
    · refine mf_sub [1, 0] rfl ?_
      exact hJ72
    · refine mf_aload_n 1 dX12_drawTick_20 rfl ?_
      refine mf_aload_n 1 dX12_drawTick_21 rfl ?_
      refine mf_getr 12 6 dX12_drawTick_22 fl_X12_33 (by decide) (by decide) rfl (mo_o hM) (mo_r6 hM) (by decide) ?_
      refine mf_iconst (v := 4) dX12_drawTick_25 rfl ?_
      refine mf_iald dX12_drawTick_26 (mo_a6 hM) (fun v8 => ?_)
      refine mf_cVi (rest := []) [.int v8] (aX12_draw (d + 4) q hM v8) mY_X12_draw dX12_drawTick_27 ml_X12_470 (mo_o hM) rfl rfl (Nat.le_of_ble_eq_true rfl) rfl (fun v9 => ?_)
      refine mf_istore_n [(2, .int v9), (1, .int v1), (0, .ref 218)] dX12_drawTick_30 (Nat.le_of_ble_eq_true rfl) rfl ?_
      refine mf_aload_n 2 dX12_drawTick_31 rfl ?_
      refine mf_getr 12 6 dX12_drawTick_32 fl_X12_33 (by decide) (by decide) rfl (mo_o hM) (mo_r6 hM) (by decide) ?_
      refine mf_sipush (v := 229) dX12_drawTick_35 (by decide) ?_
      refine mf_iload_n 0 dX12_drawTick_38 rfl ?_
      refine mf_iadd dX12_drawTick_39 ?_
      refine mf_iald dX12_drawTick_40 (mo_a6 hM) (fun v10 => ?_)
      refine mf_iconst (v := 1) dX12_drawTick_41 rfl ?_
      refine mf_icmp_ne (tgt := 53) dX12_drawTick_42 (by decide) ?_ ?_
      · refine mf_aload_n 2 dX12_drawTick_53 rfl ?_
        refine mf_iload_n 0 dX12_drawTick_54 rfl ?_
        refine mf_cVi (rest := []) [.int v9] (aX12_whySet (d + 0) q hM v9) mY_X12_whySet dX12_drawTick_55 ml_X12_376 (mo_o hM) rfl rfl (Nat.le_of_ble_eq_true rfl) rfl (fun v11 => ?_)
        refine mf_if_ne (tgt := 72) dX12_drawTick_58 (by decide) ?_ ?_
        · refine mf_sub [2, 1] rfl ?_
          exact hJ72
        · refine mf_aload_n 2 dX12_drawTick_61 rfl ?_
          refine mf_getr 12 6 dX12_drawTick_62 fl_X12_33 (by decide) (by decide) rfl (mo_o hM) (mo_r6 hM) (by decide) ?_
          refine mf_sipush (v := 229) dX12_drawTick_65 (by decide) ?_
          refine mf_iload_n 0 dX12_drawTick_68 rfl ?_
          refine mf_iadd dX12_drawTick_69 ?_
          refine mf_iconst (v := 1) dX12_drawTick_70 rfl ?_
          refine mf_iast dX12_drawTick_71 (mo_a6 hM) ?_
          refine mf_sub [2, 1] rfl ?_
          exact hJ72
      · refine mf_aload_n 2 dX12_drawTick_45 rfl ?_
        refine mf_iload_n 0 dX12_drawTick_46 rfl ?_
        refine mf_cVv (rest := []) [.int v9] (aX12_putsBack (d + 2) q hM v9) mY_X12_putsBack dX12_drawTick_47 ml_X12_382 (mo_o hM) rfl rfl (Nat.le_of_ble_eq_true rfl) rfl (fun _ => ?_)
        refine mf_goto (tgt := 72) dX12_drawTick_50 (by decide) ?_
        refine mf_sub [2, 1] rfl ?_
        exact hJ72
set_option maxRecDepth 100000 in
set_option maxHeartbeats 4000000 in
theorem aX12_draws (d : Nat) (q : m_S) (hM : isM q) (a1 : Int32) (a2 : Int32) : AC rI yX12_draws cX12_draws 4 (some .int) (d + 7) [.ref 218, .int a1, .int a2] q (fX12_draws a1 a2) := by
  refine ac_of (by decide +kernel) (Nat.le_of_ble_eq_true rfl) ?_
  unfold fX12_draws
  show MF rI (yX12_draws.cls, cX12_draws, 4, (some .int), yX12_draws.name, d + 7, 0, 0) 0 [(0, .ref 218), (1, .int a1), (2, .int a2)] [] q _
  refine mf_aload_n 0 dX12_draws_0 rfl ?_
  refine mf_iload_n 2 dX12_draws_1 rfl ?_
  refine mf_puti 12 37 dX12_draws_2 fl_X12_466 (by decide) (by decide) rfl rfl (mo_o hM) ?_
  refine mf_iconst (v := 0) dX12_draws_5 rfl ?_
  refine mf_istore_n [(3, .int 0), (0, .ref 218), (1, .int a1), (2, .int a2)] dX12_draws_6 (Nat.le_of_ble_eq_true rfl) rfl ?_
  refine mf_sub [1, 2, 0] rfl ?_
  refine mf_lz1 (lv := fun x1 => [(0, .ref 218), (1, .int a1), (3, .int x1)]) (fun L7 h7 x1 => ?_) _ _
  show MF rI (yX12_draws.cls, cX12_draws, 4, (some .int), yX12_draws.name, d + 7, 0, 0) 7 [(0, .ref 218), (1, .int a1), (3, .int x1)] [] q _
  refine mf_iload_n 2 dX12_draws_7 rfl ?_
  refine mf_iload_n 1 dX12_draws_8 rfl ?_
  refine mf_icmp_ge (tgt := 41) dX12_draws_9 (by decide) ?_ ?_
  · refine mf_iload_n 2 dX12_draws_41 rfl ?_
    exact mf_ireturn dX12_draws_42 rfl rfl ⟨rfl, rfl⟩
  · refine mf_aload_n 0 dX12_draws_12 rfl ?_
    refine mf_getr 12 6 dX12_draws_13 fl_X12_33 (by decide) (by decide) rfl (mo_o hM) (mo_r6 hM) (by decide) ?_
    refine mf_sipush (v := 226) dX12_draws_16 (by decide) ?_
    refine mf_iald dX12_draws_19 (mo_a6 hM) (fun v2 => ?_)
    refine mf_sipush (v := 1000) dX12_draws_20 (by decide) ?_
    refine mf_icmp_ge (tgt := 41) dX12_draws_23 (by decide) ?_ ?_
    · refine mf_iload_n 2 dX12_draws_41 rfl ?_
      exact mf_ireturn dX12_draws_42 rfl rfl ⟨rfl, rfl⟩
    · refine mf_aload_n 0 dX12_draws_26 rfl ?_
      refine mf_cVv (rest := []) [] (aX12_drawTick (d + 0) q hM) mY_X12_drawTick dX12_draws_27 ml_X12_473 (mo_o hM) rfl rfl (Nat.le_of_ble_eq_true rfl) rfl (fun _ => ?_)
      refine mf_aload_n 0 dX12_draws_30 rfl ?_
      refine mf_cVi (rest := []) [] (aX12_tick (d + 2) q hM) mY_X12_tick dX12_draws_31 ml_X12_373 (mo_o hM) rfl rfl (Nat.le_of_ble_eq_true rfl) rfl (fun v3 => ?_)
      refine mf_pop dX12_draws_34 rfl ?_
      refine mf_iinc 2 (x1 + 1) [(3, .int (x1 + 1)), (0, .ref 218), (1, .int a1)] dX12_draws_35 rfl rfl (Nat.le_of_ble_eq_true rfl) rfl ?_
      refine mf_goto (tgt := 7) dX12_draws_38 (by decide) ?_
      refine mf_sub [1, 2, 0] rfl ?_
      exact h7 _
set_option maxRecDepth 100000 in
set_option maxHeartbeats 4000000 in
theorem aX12_drawn (d : Nat) (q : m_S) (hM : isM q) (a1 : Int32) (a2 : Int32) : AC rI yX12_drawn cX12_drawn 3 (some .int) (d + 8) [.ref 218, .int a1, .int a2] q (fX12_drawn a1 a2) := by
  refine ac_of (by decide +kernel) (Nat.le_of_ble_eq_true rfl) ?_
  unfold fX12_drawn
  show MF rI (yX12_drawn.cls, cX12_drawn, 3, (some .int), yX12_drawn.name, d + 8, 0, 0) 0 [(0, .ref 218), (1, .int a1), (2, .int a2)] [] q _
  refine mf_aload_n 0 dX12_drawn_0 rfl ?_
  refine mf_iconst (v := 0) dX12_drawn_1 rfl ?_
  refine mf_puti 12 0 dX12_drawn_2 fl_X12_1 (by decide) (by decide) rfl rfl (mo_o hM) ?_
  refine mf_iload_n 1 dX12_drawn_5 rfl ?_
  refine mf_iconst (v := 1) dX12_drawn_6 rfl ?_
  refine mf_bipush (v := 60) dX12_drawn_7 (by decide) ?_
  refine mf_cSi (rest := []) [.int a1, .int 1, .int 60] (aX12_isIn (d + 6) q a1 1 60) mY_X12_isIn dX12_drawn_9 ml_X12_211 rfl rfl (Nat.le_of_ble_eq_true rfl) rfl (fun v1 => ?_)
  refine mf_if_ne (tgt := 17) dX12_drawn_12 (by decide) ?_ ?_
  · refine mf_aload_n 0 dX12_drawn_17 rfl ?_
    refine mf_getr 12 6 dX12_drawn_18 fl_X12_33 (by decide) (by decide) rfl (mo_o hM) (mo_r6 hM) (by decide) ?_
    refine mf_sipush (v := 226) dX12_drawn_21 (by decide) ?_
    refine mf_iald dX12_drawn_24 (mo_a6 hM) (fun v2 => ?_)
    refine mf_sipush (v := 1000) dX12_drawn_25 (by decide) ?_
    refine mf_icmp_ge (tgt := 35) dX12_drawn_28 (by decide) ?_ ?_
    · refine mf_aload_n 0 dX12_drawn_35 rfl ?_
      refine mf_iload_n 1 dX12_drawn_36 rfl ?_
      refine mf_iload_n 2 dX12_drawn_37 rfl ?_
      refine mf_cVi (rest := []) [.int a1, .int a2] (aX12_draws (d + 0) q hM a1 a2) mY_X12_draws dX12_drawn_38 ml_X12_476 (mo_o hM) rfl rfl (Nat.le_of_ble_eq_true rfl) rfl (fun v3 => ?_)
      exact mf_ireturn dX12_drawn_41 rfl rfl ⟨rfl, rfl⟩
    · refine mf_aload_n 0 dX12_drawn_31 rfl ?_
      refine mf_cVv (rest := []) [] (aX12_stores (d + 6) q hM) mY_X12_stores dX12_drawn_32 ml_X12_379 (mo_o hM) rfl rfl (Nat.le_of_ble_eq_true rfl) rfl (fun _ => ?_)
      refine mf_aload_n 0 dX12_drawn_35 rfl ?_
      refine mf_iload_n 1 dX12_drawn_36 rfl ?_
      refine mf_iload_n 2 dX12_drawn_37 rfl ?_
      refine mf_cVi (rest := []) [.int a1, .int a2] (aX12_draws (d + 0) q hM a1 a2) mY_X12_draws dX12_drawn_38 ml_X12_476 (mo_o hM) rfl rfl (Nat.le_of_ble_eq_true rfl) rfl (fun v4 => ?_)
      exact mf_ireturn dX12_drawn_41 rfl rfl ⟨rfl, rfl⟩
  · refine mf_iconst (v := -1) dX12_drawn_15 rfl ?_
    exact mf_ireturn dX12_drawn_16 rfl rfl ⟨rfl, rfl⟩
set_option maxRecDepth 100000 in
set_option maxHeartbeats 4000000 in
theorem aX12_odds (d : Nat) (q : m_S) (hM : isM q) (a1 : Int32) (a2 : Int32) : AC rI yX12_odds cX12_odds 6 (some .int) (d + 8) [.ref 218, .int a1, .int a2] q (fX12_odds a1 a2) := by
  refine ac_of (by decide +kernel) (Nat.le_of_ble_eq_true rfl) ?_
  unfold fX12_odds
  show MF rI (yX12_odds.cls, cX12_odds, 6, (some .int), yX12_odds.name, d + 8, 0, 0) 0 [(0, .ref 218), (1, .int a1), (2, .int a2)] [] q _
  refine mf_aload_n 0 dX12_odds_0 rfl ?_
  refine mf_iconst (v := 0) dX12_odds_1 rfl ?_
  refine mf_puti 12 0 dX12_odds_2 fl_X12_1 (by decide) (by decide) rfl rfl (mo_o hM) ?_
  refine mf_iload_n 1 dX12_odds_5 rfl ?_
  refine mf_iconst (v := 1) dX12_odds_6 rfl ?_
  refine mf_bipush (v := 30) dX12_odds_7 (by decide) ?_
  refine mf_cSi (rest := []) [.int a1, .int 1, .int 30] (aX12_isIn (d + 6) q a1 1 30) mY_X12_isIn dX12_odds_9 ml_X12_211 rfl rfl (Nat.le_of_ble_eq_true rfl) rfl (fun v1 => ?_)
  refine mf_if_ne (tgt := 17) dX12_odds_12 (by decide) ?_ ?_
  · refine mf_aload_n 0 dX12_odds_17 rfl ?_
    refine mf_cVv (rest := []) [] (aX12_tries (d + 6) q hM) mY_X12_tries dX12_odds_18 ml_X12_422 (mo_o hM) rfl rfl (Nat.le_of_ble_eq_true rfl) rfl (fun _ => ?_)
    refine mf_aload_n 0 dX12_odds_21 rfl ?_
    refine mf_getr 12 6 dX12_odds_22 fl_X12_33 (by decide) (by decide) rfl (mo_o hM) (mo_r6 hM) (by decide) ?_
    refine mf_sipush (v := 227) dX12_odds_25 (by decide) ?_
    refine mf_iald dX12_odds_28 (mo_a6 hM) (fun v2 => ?_)
    refine mf_istore_n [(3, .int v2), (0, .ref 218), (1, .int a1), (2, .int a2)] dX12_odds_29 (Nat.le_of_ble_eq_true rfl) rfl ?_
    refine mf_iconst (v := 0) dX12_odds_30 rfl ?_
    refine mf_istore [(4, .int 0), (3, .int v2), (0, .ref 218), (1, .int a1), (2, .int a2)] dX12_odds_31 (Nat.le_of_ble_eq_true rfl) rfl ?_
    refine mf_iconst (v := 0) dX12_odds_33 rfl ?_
    refine mf_istore [(5, .int 0), (4, .int 0), (3, .int v2), (0, .ref 218), (1, .int a1), (2, .int a2)] dX12_odds_34 (Nat.le_of_ble_eq_true rfl) rfl ?_
    refine mf_sub [3, 4, 5, 2, 1, 0] rfl ?_
    refine mf_lz2 (lv := fun x3 x4 => [(0, .ref 218), (1, .int a1), (2, .int a2), (3, .int v2), (4, .int x3), (5, .int x4)]) (fun L36 h36 x3 x4 => ?_) _ _ _
    show MF rI (yX12_odds.cls, cX12_odds, 6, (some .int), yX12_odds.name, d + 8, 0, 0) 36 [(0, .ref 218), (1, .int a1), (2, .int a2), (3, .int v2), (4, .int x3), (5, .int x4)] [] q _
    refine mf_iload 5 dX12_odds_36 rfl ?_
    refine mf_iload_n 1 dX12_odds_38 rfl ?_
    refine mf_icmp_ge (tgt := 85) dX12_odds_39 (by decide) ?_ ?_
    · refine mf_iload 4 dX12_odds_85 rfl ?_
      exact mf_ireturn dX12_odds_87 rfl rfl ⟨rfl, rfl⟩
    · refine mf_aload_n 0 dX12_odds_42 rfl ?_
      refine mf_bipush (v := 40) dX12_odds_43 (by decide) ?_
      refine mf_iload_n 2 dX12_odds_45 rfl ?_
      refine mf_iload 5 dX12_odds_46 rfl ?_
      refine mf_iadd dX12_odds_48 ?_
      refine mf_cVi (rest := []) [.int 40, .int (a2 + x4)] (aX12_draws (d + 0) q hM 40 (a2 + x4)) mY_X12_draws dX12_odds_49 ml_X12_476 (mo_o hM) rfl rfl (Nat.le_of_ble_eq_true rfl) rfl (fun v5 => ?_)
      refine mf_pop dX12_odds_52 rfl ?_
      refine mf_iload 4 dX12_odds_53 rfl ?_
      refine mf_aload_n 0 dX12_odds_55 rfl ?_
      refine mf_getr 12 6 dX12_odds_56 fl_X12_33 (by decide) (by decide) rfl (mo_o hM) (mo_r6 hM) (by decide) ?_
      refine mf_sipush (v := 227) dX12_odds_59 (by decide) ?_
      refine mf_iald dX12_odds_62 (mo_a6 hM) (fun v6 => ?_)
      refine mf_iload_n 3 dX12_odds_63 rfl ?_
      refine mf_icmp_le (tgt := 71) dX12_odds_64 (by decide) ?_ ?_
      · refine mf_iconst (v := 0) dX12_odds_71 rfl ?_
        refine mf_iadd dX12_odds_72 ?_
        refine mf_istore [(4, .int (x3 + 0)), (0, .ref 218), (1, .int a1), (2, .int a2), (3, .int v2), (5, .int x4)] dX12_odds_73 (Nat.le_of_ble_eq_true rfl) rfl ?_
        refine mf_aload_n 1 dX12_odds_75 rfl ?_
        refine mf_cVv (rest := []) [] (aX12_brings (d + 6) q hM) mY_X12_brings dX12_odds_76 ml_X12_425 (mo_o hM) rfl rfl (Nat.le_of_ble_eq_true rfl) rfl (fun _ => ?_)
        refine mf_iinc 5 (x4 + 1) [(5, .int (x4 + 1)), (4, .int (x3 + 0)), (0, .ref 218), (1, .int a1), (2, .int a2), (3, .int v2)] dX12_odds_79 rfl rfl (Nat.le_of_ble_eq_true rfl) rfl ?_
        refine mf_goto (tgt := 36) dX12_odds_82 (by decide) ?_
        refine mf_sub [2, 3, 4, 5, 1, 0] rfl ?_
        exact h36 _ _
      · refine mf_iconst (v := 1) dX12_odds_67 rfl ?_
        refine mf_goto (tgt := 72) dX12_odds_68 (by decide) ?_
        refine mf_iadd dX12_odds_72 ?_
        refine mf_istore [(4, .int (x3 + 1)), (0, .ref 218), (1, .int a1), (2, .int a2), (3, .int v2), (5, .int x4)] dX12_odds_73 (Nat.le_of_ble_eq_true rfl) rfl ?_
        refine mf_aload_n 1 dX12_odds_75 rfl ?_
        refine mf_cVv (rest := []) [] (aX12_brings (d + 6) q hM) mY_X12_brings dX12_odds_76 ml_X12_425 (mo_o hM) rfl rfl (Nat.le_of_ble_eq_true rfl) rfl (fun _ => ?_)
        refine mf_iinc 5 (x4 + 1) [(5, .int (x4 + 1)), (4, .int (x3 + 1)), (0, .ref 218), (1, .int a1), (2, .int a2), (3, .int v2)] dX12_odds_79 rfl rfl (Nat.le_of_ble_eq_true rfl) rfl ?_
        refine mf_goto (tgt := 36) dX12_odds_82 (by decide) ?_
        refine mf_sub [2, 3, 4, 5, 1, 0] rfl ?_
        exact h36 _ _
  · refine mf_iconst (v := -1) dX12_odds_15 rfl ?_
    exact mf_ireturn dX12_odds_16 rfl rfl ⟨rfl, rfl⟩
set_option maxRecDepth 100000 in
set_option maxHeartbeats 4000000 in
theorem aX12_bookLine (d : Nat) (q : m_S) (hM : isM q)  : AC rI yX12_bookLine cX12_bookLine 5 (some .boolean) (d + 4) [.ref 218] q (fX12_bookLine ) := by
  refine ac_of (by decide +kernel) (Nat.le_of_ble_eq_true rfl) ?_
  unfold fX12_bookLine
  show MF rI (yX12_bookLine.cls, cX12_bookLine, 5, (some .boolean), yX12_bookLine.name, d + 4, 0, 0) 0 [(0, .ref 218)] [] q _
  refine mf_iconst (v := 3) dX12_bookLine_0 rfl ?_
  refine mf_aload_n 0 dX12_bookLine_1 rfl ?_
  refine mf_geti 12 38 dX12_bookLine_2 fl_X12_479 (by decide) (by decide) rfl (mo_o hM) (fun v1 => ?_)
  refine mf_imul dX12_bookLine_5 ?_
  refine mf_istore_n [(1, .int (3 * v1)), (0, .ref 218)] dX12_bookLine_6 (Nat.le_of_ble_eq_true rfl) rfl ?_
  refine mf_aload_n 1 dX12_bookLine_7 rfl ?_
  refine mf_ldc2 dX12_bookLine_8 cl_X12_128 ?_
  refine mf_cVi (rest := []) [.long 7562612] (aX12_isWord (d + 2) q hM 7562612) mY_X12_isWord dX12_bookLine_11 ml_X12_233 (mo_o hM) rfl rfl (Nat.le_of_ble_eq_true rfl) rfl (fun v2 => ?_)
  refine mf_jo1 (pj := 92) (lvj := fun w3 => [(0, .ref 218), (1, .int (3 * v1))]) (stj := fun w3 => [.int w3]) (fun w3 => ?_) (fun J92 hJ92 => ?_)
  · show MF rI (yX12_bookLine.cls, cX12_bookLine, 5, (some .boolean), yX12_bookLine.name, d + 4, 0, 0) 92 [(0, .ref 218), (1, .int (3 * v1))] [.int w3] q _
    refine mf_istore_n [(2, .int w3), (0, .ref 218), (1, .int (3 * v1))] dX12_bookLine_92 (Nat.le_of_ble_eq_true rfl) rfl ?_
    refine mf_iload_n 0 dX12_bookLine_93 rfl ?_
    refine mf_if_ge (tgt := 103) dX12_bookLine_94 (by decide) ?_ ?_
    · refine mf_aload_n 1 dX12_bookLine_103 rfl ?_
      refine mf_geti 12 38 dX12_bookLine_104 fl_X12_479 (by decide) (by decide) rfl (mo_o hM) (fun v4 => ?_)
      refine mf_bipush (v := 40) dX12_bookLine_107 (by decide) ?_
      refine mf_icmp_ne (tgt := 118) dX12_bookLine_109 (by decide) ?_ ?_
      · refine mf_aload_n 1 dX12_bookLine_118 rfl ?_
        refine mf_cVv (rest := []) [] (aX12_next (d + 1) q hM) mY_X12_next dX12_bookLine_119 ml_X12_208 (mo_o hM) rfl rfl (Nat.le_of_ble_eq_true rfl) rfl (fun _ => ?_)
        refine mf_aload_n 1 dX12_bookLine_122 rfl ?_
        refine mf_getr 12 8 dX12_bookLine_123 fl_X12_40 (by decide) (by decide) rfl (mo_o hM) (mo_r8 hM) (by decide) ?_
        refine mf_iload_n 2 dX12_bookLine_126 rfl ?_
        refine mf_iload_n 0 dX12_bookLine_127 rfl ?_
        refine mf_iast dX12_bookLine_128 (mo_a8 hM) ?_
        refine mf_iload_n 0 dX12_bookLine_129 rfl ?_
        refine mf_iconst (v := 2) dX12_bookLine_130 rfl ?_
        refine mf_jo1 (pj := 195) (lvj := fun w5 => [(0, .ref 218), (1, .int (3 * v1)), (2, .int w3)]) (stj := fun w5 => [.int w5]) (fun w5 => ?_) (fun J195 hJ195 => ?_)
        · show MF rI (yX12_bookLine.cls, cX12_bookLine, 5, (some .boolean), yX12_bookLine.name, d + 4, 0, 0) 195 [(0, .ref 218), (1, .int (3 * v1)), (2, .int w3)] [.int w5] q _
          refine mf_istore_n [(3, .int w5), (0, .ref 218), (1, .int (3 * v1)), (2, .int w3)] dX12_bookLine_195 (Nat.le_of_ble_eq_true rfl) rfl ?_
          refine mf_aload_n 1 dX12_bookLine_196 rfl ?_
          refine mf_getr 12 8 dX12_bookLine_197 fl_X12_40 (by decide) (by decide) rfl (mo_o hM) (mo_r8 hM) (by decide) ?_
          refine mf_iload_n 2 dX12_bookLine_200 rfl ?_
          refine mf_iconst (v := 1) dX12_bookLine_201 rfl ?_
          refine mf_iadd dX12_bookLine_202 ?_
          refine mf_aload_n 1 dX12_bookLine_203 rfl ?_
          refine mf_geti 12 18 dX12_bookLine_204 fl_X12_215 (by decide) (by decide) rfl (mo_o hM) (fun v6 => ?_)
          refine mf_iast dX12_bookLine_207 (mo_a8 hM) ?_
          refine mf_iload_n 0 dX12_bookLine_208 rfl ?_
          refine mf_if_eq (tgt := 217) dX12_bookLine_209 (by decide) ?_ ?_
          · refine mf_iload_n 0 dX12_bookLine_217 rfl ?_
            exact mf_zreturn dX12_bookLine_218 rfl ⟨rfl, rfl⟩
          · refine mf_iload_n 3 dX12_bookLine_212 rfl ?_
            refine mf_iconst (v := 3) dX12_bookLine_213 rfl ?_
            refine mf_icmp_eq (tgt := 219) dX12_bookLine_214 (by decide) ?_ ?_
            · refine mf_aload_n 1 dX12_bookLine_219 rfl ?_
              refine mf_ldc2 dX12_bookLine_220 cl_X12_138 ?_
              refine mf_cVi (rest := []) [.long 1718971500] (aX12_isWord (d + 2) q hM 1718971500) mY_X12_isWord dX12_bookLine_223 ml_X12_233 (mo_o hM) rfl rfl (Nat.le_of_ble_eq_true rfl) rfl (fun v7 => ?_)
              refine mf_istore [(4, .int v7), (3, .int w5), (0, .ref 218), (1, .int (3 * v1)), (2, .int w3)] dX12_bookLine_226 (Nat.le_of_ble_eq_true rfl) rfl ?_
              refine mf_iload 0 dX12_bookLine_228 rfl ?_
              refine mf_jo0 (pj := 249) (lvj := [(0, .ref 218), (1, .int (3 * v1)), (4, .int v7)]) (stj := []) ?_ (fun J249 hJ249 => ?_)
              · show MF rI (yX12_bookLine.cls, cX12_bookLine, 5, (some .boolean), yX12_bookLine.name, d + 4, 0, 0) 249 [(0, .ref 218), (1, .int (3 * v1)), (4, .int v7)] [] q _
                refine mf_aload_n 0 dX12_bookLine_249 rfl ?_
                refine mf_getr 12 8 dX12_bookLine_250 fl_X12_40 (by decide) (by decide) rfl (mo_o hM) (mo_r8 hM) (by decide) ?_
                refine mf_iload_n 1 dX12_bookLine_253 rfl ?_
                refine mf_iconst (v := 2) dX12_bookLine_254 rfl ?_
                refine mf_iadd dX12_bookLine_255 ?_
                refine mf_iload 2 dX12_bookLine_256 rfl ?_
                refine mf_if_eq (tgt := 265) dX12_bookLine_258 (by decide) ?_ ?_
                · refine mf_iconst (v := 0) dX12_bookLine_265 rfl ?_
                  refine mf_iast dX12_bookLine_266 (mo_a8 hM) ?_
                  refine mf_aload_n 0 dX12_bookLine_267 rfl ?_
                  refine mf_cVv (rest := []) [] (aX12_next (d + 1) q hM) mY_X12_next dX12_bookLine_268 ml_X12_208 (mo_o hM) rfl rfl (Nat.le_of_ble_eq_true rfl) rfl (fun _ => ?_)
                  refine mf_iconst (v := 1) dX12_bookLine_271 rfl ?_
                  exact mf_ireturn dX12_bookLine_272 rfl rfl ⟨rfl, rfl⟩
                · refine mf_iconst (v := 1) dX12_bookLine_261 rfl ?_
                  refine mf_goto (tgt := 266) dX12_bookLine_262 (by decide) ?_
                  refine mf_iast dX12_bookLine_266 (mo_a8 hM) ?_
                  refine mf_aload_n 0 dX12_bookLine_267 rfl ?_
                  refine mf_cVv (rest := []) [] (aX12_next (d + 1) q hM) mY_X12_next dX12_bookLine_268 ml_X12_208 (mo_o hM) rfl rfl (Nat.le_of_ble_eq_true rfl) rfl (fun _ => ?_)
                  refine mf_iconst (v := 1) dX12_bookLine_271 rfl ?_
                  exact mf_ireturn dX12_bookLine_272 rfl rfl ⟨rfl, rfl⟩
              refine mf_if_ne (tgt := 249) dX12_bookLine_230 (by decide) ?_ ?_
              · refine mf_sub [2, 3, 0] rfl ?_
                exact hJ249
              · refine mf_aload_n 2 dX12_bookLine_233 rfl ?_
                refine mf_ldc2 dX12_bookLine_234 cl_X12_136 ?_
                refine mf_cVi (rest := []) [.long 427020345714] (aX12_isWord (d + 2) q hM 427020345714) mY_X12_isWord dX12_bookLine_237 ml_X12_233 (mo_o hM) rfl rfl (Nat.le_of_ble_eq_true rfl) rfl (fun v8 => ?_)
                refine mf_if_ne (tgt := 249) dX12_bookLine_240 (by decide) ?_ ?_
                · refine mf_sub [2, 3, 0] rfl ?_
                  exact hJ249
                · refine mf_aload_n 2 dX12_bookLine_243 rfl ?_
                  refine mf_iconst (v := 1) dX12_bookLine_244 rfl ?_
                  refine mf_cVi (rest := []) [.int 1] (aX12_bad (d + 2) q hM 1) mY_X12_bad dX12_bookLine_245 ml_X12_205 (mo_o hM) rfl rfl (Nat.le_of_ble_eq_true rfl) rfl (fun v9 => ?_)
                  exact mf_zreturn dX12_bookLine_248 rfl ⟨rfl, rfl⟩
            · refine mf_iload_n 0 dX12_bookLine_217 rfl ?_
              exact mf_zreturn dX12_bookLine_218 rfl ⟨rfl, rfl⟩
        refine mf_icmp_ge (tgt := 149) dX12_bookLine_131 (by decide) ?_ ?_
        · refine mf_iload_n 0 dX12_bookLine_149 rfl ?_
          refine mf_iconst (v := 2) dX12_bookLine_150 rfl ?_
          refine mf_icmp_ne (tgt := 169) dX12_bookLine_151 (by decide) ?_ ?_
          · refine mf_iload_n 0 dX12_bookLine_169 rfl ?_
            refine mf_iconst (v := 5) dX12_bookLine_170 rfl ?_
            refine mf_icmp_ge (tgt := 188) dX12_bookLine_171 (by decide) ?_ ?_
            · refine mf_aload_n 1 dX12_bookLine_188 rfl ?_
              refine mf_iconst (v := 1) dX12_bookLine_189 rfl ?_
              refine mf_bipush (v := 60) dX12_bookLine_190 (by decide) ?_
              refine mf_cVi (rest := []) [.int 1, .int 60] (aX12_takes (d + 0) q hM 1 60) mY_X12_takes dX12_bookLine_192 ml_X12_218 (mo_o hM) rfl rfl (Nat.le_of_ble_eq_true rfl) rfl (fun v10 => ?_)
              refine mf_sub [1, 2, 0] rfl ?_
              exact hJ195 _
            · refine mf_aload_n 1 dX12_bookLine_174 rfl ?_
              refine mf_iconst (v := 0) dX12_bookLine_175 rfl ?_
              refine mf_aload_n 1 dX12_bookLine_176 rfl ?_
              refine mf_getr 12 6 dX12_bookLine_177 fl_X12_33 (by decide) (by decide) rfl (mo_o hM) (mo_r6 hM) (by decide) ?_
              refine mf_iconst (v := 0) dX12_bookLine_180 rfl ?_
              refine mf_iald dX12_bookLine_181 (mo_a6 hM) (fun v11 => ?_)
              refine mf_cVi (rest := []) [.int 0, .int v11] (aX12_takesName (d + 0) q hM 0 v11) mY_X12_takesName dX12_bookLine_182 ml_X12_271 (mo_o hM) rfl rfl (Nat.le_of_ble_eq_true rfl) rfl (fun v12 => ?_)
              refine mf_goto (tgt := 195) dX12_bookLine_185 (by decide) ?_
              refine mf_sub [1, 2, 0] rfl ?_
              exact hJ195 _
          · refine mf_aload_n 1 dX12_bookLine_154 rfl ?_
            refine mf_bipush (v := 12) dX12_bookLine_155 (by decide) ?_
            refine mf_aload_n 1 dX12_bookLine_157 rfl ?_
            refine mf_getr 12 6 dX12_bookLine_158 fl_X12_33 (by decide) (by decide) rfl (mo_o hM) (mo_r6 hM) (by decide) ?_
            refine mf_iconst (v := 1) dX12_bookLine_161 rfl ?_
            refine mf_iald dX12_bookLine_162 (mo_a6 hM) (fun v13 => ?_)
            refine mf_cVi (rest := []) [.int 12, .int v13] (aX12_takesName (d + 0) q hM 12 v13) mY_X12_takesName dX12_bookLine_163 ml_X12_271 (mo_o hM) rfl rfl (Nat.le_of_ble_eq_true rfl) rfl (fun v14 => ?_)
            refine mf_goto (tgt := 195) dX12_bookLine_166 (by decide) ?_
            refine mf_sub [1, 2, 0] rfl ?_
            exact hJ195 _
        · refine mf_aload_n 1 dX12_bookLine_134 rfl ?_
          refine mf_bipush (v := 26) dX12_bookLine_135 (by decide) ?_
          refine mf_aload_n 1 dX12_bookLine_137 rfl ?_
          refine mf_getr 12 6 dX12_bookLine_138 fl_X12_33 (by decide) (by decide) rfl (mo_o hM) (mo_r6 hM) (by decide) ?_
          refine mf_iconst (v := 4) dX12_bookLine_141 rfl ?_
          refine mf_iald dX12_bookLine_142 (mo_a6 hM) (fun v15 => ?_)
          refine mf_cVi (rest := []) [.int 26, .int v15] (aX12_takesName (d + 0) q hM 26 v15) mY_X12_takesName dX12_bookLine_143 ml_X12_271 (mo_o hM) rfl rfl (Nat.le_of_ble_eq_true rfl) rfl (fun v16 => ?_)
          refine mf_goto (tgt := 195) dX12_bookLine_146 (by decide) ?_
          refine mf_sub [1, 2, 0] rfl ?_
          exact hJ195 _
      · refine mf_aload_n 1 dX12_bookLine_112 rfl ?_
        refine mf_iconst (v := 4) dX12_bookLine_113 rfl ?_
        refine mf_cVi (rest := []) [.int 4] (aX12_bad (d + 2) q hM 4) mY_X12_bad dX12_bookLine_114 ml_X12_205 (mo_o hM) rfl rfl (Nat.le_of_ble_eq_true rfl) rfl (fun v17 => ?_)
        exact mf_zreturn dX12_bookLine_117 rfl ⟨rfl, rfl⟩
    · refine mf_aload_n 1 dX12_bookLine_97 rfl ?_
      refine mf_iconst (v := 1) dX12_bookLine_98 rfl ?_
      refine mf_cVi (rest := []) [.int 1] (aX12_bad (d + 2) q hM 1) mY_X12_bad dX12_bookLine_99 ml_X12_205 (mo_o hM) rfl rfl (Nat.le_of_ble_eq_true rfl) rfl (fun v18 => ?_)
      exact mf_zreturn dX12_bookLine_102 rfl ⟨rfl, rfl⟩
  refine mf_if_eq (tgt := 21) dX12_bookLine_14 (by decide) ?_ ?_
  · refine mf_aload_n 1 dX12_bookLine_21 rfl ?_
    refine mf_ldc2 dX12_bookLine_22 cl_X12_130 ?_
    refine mf_cVi (rest := []) [.long 1650549611] (aX12_isWord (d + 2) q hM 1650549611) mY_X12_isWord dX12_bookLine_25 ml_X12_233 (mo_o hM) rfl rfl (Nat.le_of_ble_eq_true rfl) rfl (fun v19 => ?_)
    refine mf_if_eq (tgt := 35) dX12_bookLine_28 (by decide) ?_ ?_
    · refine mf_aload_n 1 dX12_bookLine_35 rfl ?_
      refine mf_ldc2 dX12_bookLine_36 cl_X12_132 ?_
      refine mf_cVi (rest := []) [.long 499968536439] (aX12_isWord (d + 2) q hM 499968536439) mY_X12_isWord dX12_bookLine_39 ml_X12_233 (mo_o hM) rfl rfl (Nat.le_of_ble_eq_true rfl) rfl (fun v20 => ?_)
      refine mf_if_eq (tgt := 49) dX12_bookLine_42 (by decide) ?_ ?_
      · refine mf_aload_n 1 dX12_bookLine_49 rfl ?_
        refine mf_ldc2 dX12_bookLine_50 cl_X12_134 ?_
        refine mf_cVi (rest := []) [.long 1717660012] (aX12_isWord (d + 2) q hM 1717660012) mY_X12_isWord dX12_bookLine_53 ml_X12_233 (mo_o hM) rfl rfl (Nat.le_of_ble_eq_true rfl) rfl (fun v21 => ?_)
        refine mf_if_eq (tgt := 63) dX12_bookLine_56 (by decide) ?_ ?_
        · refine mf_aload_n 1 dX12_bookLine_63 rfl ?_
          refine mf_ldc2 dX12_bookLine_64 cl_X12_140 ?_
          refine mf_cVi (rest := []) [.long 1835363940] (aX12_isWord (d + 2) q hM 1835363940) mY_X12_isWord dX12_bookLine_67 ml_X12_233 (mo_o hM) rfl rfl (Nat.le_of_ble_eq_true rfl) rfl (fun v22 => ?_)
          refine mf_if_eq (tgt := 77) dX12_bookLine_70 (by decide) ?_ ?_
          · refine mf_aload_n 1 dX12_bookLine_77 rfl ?_
            refine mf_ldc2 dX12_bookLine_78 cl_X12_142 ?_
            refine mf_cVi (rest := []) [.long 1953063787] (aX12_isWord (d + 2) q hM 1953063787) mY_X12_isWord dX12_bookLine_81 ml_X12_233 (mo_o hM) rfl rfl (Nat.le_of_ble_eq_true rfl) rfl (fun v23 => ?_)
            refine mf_if_eq (tgt := 91) dX12_bookLine_84 (by decide) ?_ ?_
            · refine mf_iconst (v := -1) dX12_bookLine_91 rfl ?_
              refine mf_sub [1, 0] rfl ?_
              exact hJ92 _
            · refine mf_iconst (v := 5) dX12_bookLine_87 rfl ?_
              refine mf_goto (tgt := 92) dX12_bookLine_88 (by decide) ?_
              refine mf_sub [1, 0] rfl ?_
              exact hJ92 _
          · refine mf_iconst (v := 4) dX12_bookLine_73 rfl ?_
            refine mf_goto (tgt := 92) dX12_bookLine_74 (by decide) ?_
            refine mf_sub [1, 0] rfl ?_
            exact hJ92 _
        · refine mf_iconst (v := 3) dX12_bookLine_59 rfl ?_
          refine mf_goto (tgt := 92) dX12_bookLine_60 (by decide) ?_
          refine mf_sub [1, 0] rfl ?_
          exact hJ92 _
      · refine mf_iconst (v := 2) dX12_bookLine_45 rfl ?_
        refine mf_goto (tgt := 92) dX12_bookLine_46 (by decide) ?_
        refine mf_sub [1, 0] rfl ?_
        exact hJ92 _
    · refine mf_iconst (v := 1) dX12_bookLine_31 rfl ?_
      refine mf_goto (tgt := 92) dX12_bookLine_32 (by decide) ?_
      refine mf_sub [1, 0] rfl ?_
      exact hJ92 _
  · refine mf_iconst (v := 0) dX12_bookLine_17 rfl ?_
    refine mf_goto (tgt := 92) dX12_bookLine_18 (by decide) ?_
    refine mf_sub [1, 0] rfl ?_
    exact hJ92 _
set_option maxRecDepth 100000 in
set_option maxHeartbeats 4000000 in
theorem aX12_does (d : Nat) (q : m_S) (hM : isM q) (a1 : Int32) (a2 : Int32) (a3 : Int32) : AC rI yX12_does cX12_does 5 (some .int) (d + 6) [.ref 218, .int a1, .int a2, .int a3] q (fX12_does a1 a2 a3) := by
  refine ac_of (by decide +kernel) (Nat.le_of_ble_eq_true rfl) ?_
  unfold fX12_does
  show MF rI (yX12_does.cls, cX12_does, 5, (some .int), yX12_does.name, d + 6, 0, 0) 0 [(0, .ref 218), (1, .int a1), (2, .int a2), (3, .int a3)] [] q _
  refine mf_iconst (v := 0) dX12_does_0 rfl ?_
  refine mf_istore [(4, .int 0), (0, .ref 218), (1, .int a1), (2, .int a2), (3, .int a3)] dX12_does_1 (Nat.le_of_ble_eq_true rfl) rfl ?_
  refine mf_iload_n 2 dX12_does_3 rfl ?_
  refine mf_case (v := 0) (tgt := 40) (off := 36) dX12_does_4 (by decide) (by decide) (by decide) (by decide) ?_ (fun t4_0 => ?_)
  · refine mf_aload_n 1 dX12_does_40 rfl ?_
    refine mf_iload_n 3 dX12_does_41 rfl ?_
    refine mf_cVi (rest := []) [.int a2] (aX12_whySet (d + 0) q hM a2) mY_X12_whySet dX12_does_42 ml_X12_376 (mo_o hM) rfl rfl (Nat.le_of_ble_eq_true rfl) rfl (fun v1 => ?_)
    refine mf_istore [(4, .int v1), (0, .ref 218), (1, .int a1), (2, .int a2), (3, .int a3)] dX12_does_45 (Nat.le_of_ble_eq_true rfl) rfl ?_
    refine mf_iload 0 dX12_does_47 rfl ?_
    refine mf_if_ne (tgt := 236) dX12_does_49 (by decide) ?_ ?_
    · refine mf_iload 0 dX12_does_236 rfl ?_
      refine mf_if_le (tgt := 251) dX12_does_238 (by decide) ?_ ?_
      · refine mf_iconst (v := 0) dX12_does_251 rfl ?_
        exact mf_ireturn dX12_does_252 rfl rfl ⟨rfl, rfl⟩
      · refine mf_iload 0 dX12_does_241 rfl ?_
        refine mf_bipush (v := 10) dX12_does_243 (by decide) ?_
        refine mf_iload_n 2 dX12_does_245 rfl ?_
        refine mf_imul dX12_does_246 ?_
        refine mf_iadd dX12_does_247 ?_
        refine mf_goto (tgt := 252) dX12_does_248 (by decide) ?_
        exact mf_ireturn dX12_does_252 rfl rfl ⟨rfl, rfl⟩
    · refine mf_aload_n 1 dX12_does_52 rfl ?_
      refine mf_getr 12 6 dX12_does_53 fl_X12_33 (by decide) (by decide) rfl (mo_o hM) (mo_r6 hM) (by decide) ?_
      refine mf_sipush (v := 229) dX12_does_56 (by decide) ?_
      refine mf_iload_n 3 dX12_does_59 rfl ?_
      refine mf_iadd dX12_does_60 ?_
      refine mf_iconst (v := 1) dX12_does_61 rfl ?_
      refine mf_iast dX12_does_62 (mo_a6 hM) ?_
      refine mf_goto (tgt := 236) dX12_does_63 (by decide) ?_
      refine mf_iload 0 dX12_does_236 rfl ?_
      refine mf_if_le (tgt := 251) dX12_does_238 (by decide) ?_ ?_
      · refine mf_iconst (v := 0) dX12_does_251 rfl ?_
        exact mf_ireturn dX12_does_252 rfl rfl ⟨rfl, rfl⟩
      · refine mf_iload 0 dX12_does_241 rfl ?_
        refine mf_bipush (v := 10) dX12_does_243 (by decide) ?_
        refine mf_iload_n 2 dX12_does_245 rfl ?_
        refine mf_imul dX12_does_246 ?_
        refine mf_iadd dX12_does_247 ?_
        refine mf_goto (tgt := 252) dX12_does_248 (by decide) ?_
        exact mf_ireturn dX12_does_252 rfl rfl ⟨rfl, rfl⟩
  refine mf_case (v := 1) (tgt := 66) (off := 62) dX12_does_4 (by decide) (by decide) (by decide) (by decide) ?_ (fun t4_1 => ?_)
  · refine mf_aload_n 1 dX12_does_66 rfl ?_
    refine mf_getr 12 6 dX12_does_67 fl_X12_33 (by decide) (by decide) rfl (mo_o hM) (mo_r6 hM) (by decide) ?_
    refine mf_sipush (v := 229) dX12_does_70 (by decide) ?_
    refine mf_iload_n 3 dX12_does_73 rfl ?_
    refine mf_iadd dX12_does_74 ?_
    refine mf_iald dX12_does_75 (mo_a6 hM) (fun v2 => ?_)
    refine mf_iconst (v := 1) dX12_does_76 rfl ?_
    refine mf_jo1 (pj := 85) (lvj := fun w3 => [(0, .ref 218), (1, .int a1), (2, .int a2)]) (stj := fun w3 => [.int w3]) (fun w3 => ?_) (fun J85 hJ85 => ?_)
    · show MF rI (yX12_does.cls, cX12_does, 5, (some .int), yX12_does.name, d + 6, 0, 0) 85 [(0, .ref 218), (1, .int a1), (2, .int a2)] [.int w3] q _
      refine mf_istore [(4, .int w3), (0, .ref 218), (1, .int a1), (2, .int a2)] dX12_does_85 (Nat.le_of_ble_eq_true rfl) rfl ?_
      refine mf_iload 0 dX12_does_87 rfl ?_
      refine mf_if_ne (tgt := 236) dX12_does_89 (by decide) ?_ ?_
      · refine mf_iload 0 dX12_does_236 rfl ?_
        refine mf_if_le (tgt := 251) dX12_does_238 (by decide) ?_ ?_
        · refine mf_iconst (v := 0) dX12_does_251 rfl ?_
          exact mf_ireturn dX12_does_252 rfl rfl ⟨rfl, rfl⟩
        · refine mf_iload 0 dX12_does_241 rfl ?_
          refine mf_bipush (v := 10) dX12_does_243 (by decide) ?_
          refine mf_iload_n 2 dX12_does_245 rfl ?_
          refine mf_imul dX12_does_246 ?_
          refine mf_iadd dX12_does_247 ?_
          refine mf_goto (tgt := 252) dX12_does_248 (by decide) ?_
          exact mf_ireturn dX12_does_252 rfl rfl ⟨rfl, rfl⟩
      · refine mf_aload_n 1 dX12_does_92 rfl ?_
        refine mf_iload_n 3 dX12_does_93 rfl ?_
        refine mf_cVv (rest := []) [.int a2] (aX12_putsBack (d + 2) q hM a2) mY_X12_putsBack dX12_does_94 ml_X12_382 (mo_o hM) rfl rfl (Nat.le_of_ble_eq_true rfl) rfl (fun _ => ?_)
        refine mf_goto (tgt := 236) dX12_does_97 (by decide) ?_
        refine mf_iload 0 dX12_does_236 rfl ?_
        refine mf_if_le (tgt := 251) dX12_does_238 (by decide) ?_ ?_
        · refine mf_iconst (v := 0) dX12_does_251 rfl ?_
          exact mf_ireturn dX12_does_252 rfl rfl ⟨rfl, rfl⟩
        · refine mf_iload 0 dX12_does_241 rfl ?_
          refine mf_bipush (v := 10) dX12_does_243 (by decide) ?_
          refine mf_iload_n 2 dX12_does_245 rfl ?_
          refine mf_imul dX12_does_246 ?_
          refine mf_iadd dX12_does_247 ?_
          refine mf_goto (tgt := 252) dX12_does_248 (by decide) ?_
          exact mf_ireturn dX12_does_252 rfl rfl ⟨rfl, rfl⟩
    refine mf_icmp_eq (tgt := 84) dX12_does_77 (by decide) ?_ ?_
    · refine mf_iconst (v := 0) dX12_does_84 rfl ?_
      refine mf_sub [1, 2, 3] rfl ?_
      exact hJ85 _
    · refine mf_iconst (v := 1) dX12_does_80 rfl ?_
      refine mf_goto (tgt := 85) dX12_does_81 (by decide) ?_
      refine mf_sub [1, 2, 3] rfl ?_
      exact hJ85 _
  refine mf_case (v := 2) (tgt := 100) (off := 96) dX12_does_4 (by decide) (by decide) (by decide) (by decide) ?_ (fun t4_2 => ?_)
  · refine mf_aload_n 1 dX12_does_100 rfl ?_
    refine mf_iload_n 3 dX12_does_101 rfl ?_
    refine mf_cVi (rest := []) [.int a2] (aX12_whyThrow (d + 1) q hM a2) mY_X12_whyThrow dX12_does_102 ml_X12_385 (mo_o hM) rfl rfl (Nat.le_of_ble_eq_true rfl) rfl (fun v4 => ?_)
    refine mf_istore [(4, .int v4), (0, .ref 218), (1, .int a1), (2, .int a2), (3, .int a3)] dX12_does_105 (Nat.le_of_ble_eq_true rfl) rfl ?_
    refine mf_iload 0 dX12_does_107 rfl ?_
    refine mf_if_ne (tgt := 236) dX12_does_109 (by decide) ?_ ?_
    · refine mf_iload 0 dX12_does_236 rfl ?_
      refine mf_if_le (tgt := 251) dX12_does_238 (by decide) ?_ ?_
      · refine mf_iconst (v := 0) dX12_does_251 rfl ?_
        exact mf_ireturn dX12_does_252 rfl rfl ⟨rfl, rfl⟩
      · refine mf_iload 0 dX12_does_241 rfl ?_
        refine mf_bipush (v := 10) dX12_does_243 (by decide) ?_
        refine mf_iload_n 2 dX12_does_245 rfl ?_
        refine mf_imul dX12_does_246 ?_
        refine mf_iadd dX12_does_247 ?_
        refine mf_goto (tgt := 252) dX12_does_248 (by decide) ?_
        exact mf_ireturn dX12_does_252 rfl rfl ⟨rfl, rfl⟩
    · refine mf_aload_n 1 dX12_does_112 rfl ?_
      refine mf_getr 12 6 dX12_does_113 fl_X12_33 (by decide) (by decide) rfl (mo_o hM) (mo_r6 hM) (by decide) ?_
      refine mf_sipush (v := 228) dX12_does_116 (by decide) ?_
      refine mf_dup2 dX12_does_119 rfl rfl ?_
      refine mf_iald dX12_does_120 (mo_a6 hM) (fun v5 => ?_)
      refine mf_iconst (v := 1) dX12_does_121 rfl ?_
      refine mf_iload_n 3 dX12_does_122 rfl ?_
      refine mf_ishl dX12_does_123 ?_
      refine mf_ixor dX12_does_124 ?_
      refine mf_iast dX12_does_125 (mo_a6 hM) ?_
      refine mf_goto (tgt := 236) dX12_does_126 (by decide) ?_
      refine mf_iload 0 dX12_does_236 rfl ?_
      refine mf_if_le (tgt := 251) dX12_does_238 (by decide) ?_ ?_
      · refine mf_iconst (v := 0) dX12_does_251 rfl ?_
        exact mf_ireturn dX12_does_252 rfl rfl ⟨rfl, rfl⟩
      · refine mf_iload 0 dX12_does_241 rfl ?_
        refine mf_bipush (v := 10) dX12_does_243 (by decide) ?_
        refine mf_iload_n 2 dX12_does_245 rfl ?_
        refine mf_imul dX12_does_246 ?_
        refine mf_iadd dX12_does_247 ?_
        refine mf_goto (tgt := 252) dX12_does_248 (by decide) ?_
        exact mf_ireturn dX12_does_252 rfl rfl ⟨rfl, rfl⟩
  refine mf_case (v := 3) (tgt := 129) (off := 125) dX12_does_4 (by decide) (by decide) (by decide) (by decide) ?_ (fun t4_3 => ?_)
  · refine mf_aload_n 1 dX12_does_129 rfl ?_
    refine mf_getr 12 6 dX12_does_130 fl_X12_33 (by decide) (by decide) rfl (mo_o hM) (mo_r6 hM) (by decide) ?_
    refine mf_sipush (v := 259) dX12_does_133 (by decide) ?_
    refine mf_iload_n 3 dX12_does_136 rfl ?_
    refine mf_iadd dX12_does_137 ?_
    refine mf_iald dX12_does_138 (mo_a6 hM) (fun v6 => ?_)
    refine mf_iload_n 4 dX12_does_139 rfl ?_
    refine mf_iconst (v := 1) dX12_does_140 rfl ?_
    refine mf_iadd dX12_does_141 ?_
    refine mf_jo1 (pj := 150) (lvj := fun w7 => [(0, .ref 218), (1, .int a1), (2, .int a2), (3, .int a3)]) (stj := fun w7 => [.int w7]) (fun w7 => ?_) (fun J150 hJ150 => ?_)
    · show MF rI (yX12_does.cls, cX12_does, 5, (some .int), yX12_does.name, d + 6, 0, 0) 150 [(0, .ref 218), (1, .int a1), (2, .int a2), (3, .int a3)] [.int w7] q _
      refine mf_istore [(4, .int w7), (0, .ref 218), (1, .int a1), (2, .int a2), (3, .int a3)] dX12_does_150 (Nat.le_of_ble_eq_true rfl) rfl ?_
      refine mf_aload_n 1 dX12_does_152 rfl ?_
      refine mf_getr 12 6 dX12_does_153 fl_X12_33 (by decide) (by decide) rfl (mo_o hM) (mo_r6 hM) (by decide) ?_
      refine mf_sipush (v := 259) dX12_does_156 (by decide) ?_
      refine mf_iload_n 3 dX12_does_159 rfl ?_
      refine mf_iadd dX12_does_160 ?_
      refine mf_iload_n 4 dX12_does_161 rfl ?_
      refine mf_iconst (v := 1) dX12_does_162 rfl ?_
      refine mf_iadd dX12_does_163 ?_
      refine mf_iast dX12_does_164 (mo_a6 hM) ?_
      refine mf_goto (tgt := 236) dX12_does_165 (by decide) ?_
      refine mf_iload 0 dX12_does_236 rfl ?_
      refine mf_if_le (tgt := 251) dX12_does_238 (by decide) ?_ ?_
      · refine mf_iconst (v := 0) dX12_does_251 rfl ?_
        exact mf_ireturn dX12_does_252 rfl rfl ⟨rfl, rfl⟩
      · refine mf_iload 0 dX12_does_241 rfl ?_
        refine mf_bipush (v := 10) dX12_does_243 (by decide) ?_
        refine mf_iload_n 2 dX12_does_245 rfl ?_
        refine mf_imul dX12_does_246 ?_
        refine mf_iadd dX12_does_247 ?_
        refine mf_goto (tgt := 252) dX12_does_248 (by decide) ?_
        exact mf_ireturn dX12_does_252 rfl rfl ⟨rfl, rfl⟩
    refine mf_icmp_ne (tgt := 149) dX12_does_142 (by decide) ?_ ?_
    · refine mf_iconst (v := 0) dX12_does_149 rfl ?_
      refine mf_sub [1, 2, 3, 4] rfl ?_
      exact hJ150 _
    · refine mf_iconst (v := 1) dX12_does_145 rfl ?_
      refine mf_goto (tgt := 150) dX12_does_146 (by decide) ?_
      refine mf_sub [1, 2, 3, 4] rfl ?_
      exact hJ150 _
  refine mf_case (v := 4) (tgt := 168) (off := 164) dX12_does_4 (by decide) (by decide) (by decide) (by decide) ?_ (fun t4_4 => ?_)
  · refine mf_aload_n 1 dX12_does_168 rfl ?_
    refine mf_getr 12 6 dX12_does_169 fl_X12_33 (by decide) (by decide) rfl (mo_o hM) (mo_r6 hM) (by decide) ?_
    refine mf_sipush (v := 259) dX12_does_172 (by decide) ?_
    refine mf_iload_n 3 dX12_does_175 rfl ?_
    refine mf_iadd dX12_does_176 ?_
    refine mf_iald dX12_does_177 (mo_a6 hM) (fun v8 => ?_)
    refine mf_jo1 (pj := 186) (lvj := fun w9 => [(0, .ref 218), (1, .int a1), (2, .int a2)]) (stj := fun w9 => [.int w9]) (fun w9 => ?_) (fun J186 hJ186 => ?_)
    · show MF rI (yX12_does.cls, cX12_does, 5, (some .int), yX12_does.name, d + 6, 0, 0) 186 [(0, .ref 218), (1, .int a1), (2, .int a2)] [.int w9] q _
      refine mf_istore [(4, .int w9), (0, .ref 218), (1, .int a1), (2, .int a2)] dX12_does_186 (Nat.le_of_ble_eq_true rfl) rfl ?_
      refine mf_aload_n 1 dX12_does_188 rfl ?_
      refine mf_getr 12 6 dX12_does_189 fl_X12_33 (by decide) (by decide) rfl (mo_o hM) (mo_r6 hM) (by decide) ?_
      refine mf_sipush (v := 259) dX12_does_192 (by decide) ?_
      refine mf_iload_n 3 dX12_does_195 rfl ?_
      refine mf_iadd dX12_does_196 ?_
      refine mf_iconst (v := 0) dX12_does_197 rfl ?_
      refine mf_iast dX12_does_198 (mo_a6 hM) ?_
      refine mf_goto (tgt := 236) dX12_does_199 (by decide) ?_
      refine mf_iload 0 dX12_does_236 rfl ?_
      refine mf_if_le (tgt := 251) dX12_does_238 (by decide) ?_ ?_
      · refine mf_iconst (v := 0) dX12_does_251 rfl ?_
        exact mf_ireturn dX12_does_252 rfl rfl ⟨rfl, rfl⟩
      · refine mf_iload 0 dX12_does_241 rfl ?_
        refine mf_bipush (v := 10) dX12_does_243 (by decide) ?_
        refine mf_iload_n 2 dX12_does_245 rfl ?_
        refine mf_imul dX12_does_246 ?_
        refine mf_iadd dX12_does_247 ?_
        refine mf_goto (tgt := 252) dX12_does_248 (by decide) ?_
        exact mf_ireturn dX12_does_252 rfl rfl ⟨rfl, rfl⟩
    refine mf_if_ne (tgt := 185) dX12_does_178 (by decide) ?_ ?_
    · refine mf_iconst (v := 0) dX12_does_185 rfl ?_
      refine mf_sub [1, 2, 3] rfl ?_
      exact hJ186 _
    · refine mf_iconst (v := 1) dX12_does_181 rfl ?_
      refine mf_goto (tgt := 186) dX12_does_182 (by decide) ?_
      refine mf_sub [1, 2, 3] rfl ?_
      exact hJ186 _
  refine mf_dflt (tgt := 202) dX12_does_4 (by have := lv_neT t4_0 (a := 0) (by decide); have := lv_neT t4_1 (a := 1) (by decide); have := lv_neT t4_2 (a := 2) (by decide); have := lv_neT t4_3 (a := 3) (by decide); have := lv_neT t4_4 (a := 4) (by decide); omega) (by decide) ?_
  refine mf_aload_n 1 dX12_does_202 rfl ?_
  refine mf_getr 12 6 dX12_does_203 fl_X12_33 (by decide) (by decide) rfl (mo_o hM) (mo_r6 hM) (by decide) ?_
  refine mf_sipush (v := 226) dX12_does_206 (by decide) ?_
  refine mf_iald dX12_does_209 (mo_a6 hM) (fun v10 => ?_)
  refine mf_iload_n 3 dX12_does_210 rfl ?_
  refine mf_iadd dX12_does_211 ?_
  refine mf_sipush (v := 1000) dX12_does_212 (by decide) ?_
  refine mf_jo1 (pj := 223) (lvj := fun w11 => [(0, .ref 218), (1, .int a1), (2, .int a2)]) (stj := fun w11 => [.int w11]) (fun w11 => ?_) (fun J223 hJ223 => ?_)
  · show MF rI (yX12_does.cls, cX12_does, 5, (some .int), yX12_does.name, d + 6, 0, 0) 223 [(0, .ref 218), (1, .int a1), (2, .int a2)] [.int w11] q _
    refine mf_istore [(4, .int w11), (0, .ref 218), (1, .int a1), (2, .int a2)] dX12_does_223 (Nat.le_of_ble_eq_true rfl) rfl ?_
    refine mf_iload 0 dX12_does_225 rfl ?_
    refine mf_if_ne (tgt := 236) dX12_does_227 (by decide) ?_ ?_
    · refine mf_iload 0 dX12_does_236 rfl ?_
      refine mf_if_le (tgt := 251) dX12_does_238 (by decide) ?_ ?_
      · refine mf_iconst (v := 0) dX12_does_251 rfl ?_
        exact mf_ireturn dX12_does_252 rfl rfl ⟨rfl, rfl⟩
      · refine mf_iload 0 dX12_does_241 rfl ?_
        refine mf_bipush (v := 10) dX12_does_243 (by decide) ?_
        refine mf_iload_n 2 dX12_does_245 rfl ?_
        refine mf_imul dX12_does_246 ?_
        refine mf_iadd dX12_does_247 ?_
        refine mf_goto (tgt := 252) dX12_does_248 (by decide) ?_
        exact mf_ireturn dX12_does_252 rfl rfl ⟨rfl, rfl⟩
    · refine mf_aload_n 1 dX12_does_230 rfl ?_
      refine mf_iload_n 3 dX12_does_231 rfl ?_
      refine mf_cVi (rest := []) [.int a2] (aX12_goesOn (d + 0) q hM a2) mY_X12_goesOn dX12_does_232 ml_X12_388 (mo_o hM) rfl rfl (Nat.le_of_ble_eq_true rfl) rfl (fun v12 => ?_)
      refine mf_pop dX12_does_235 rfl ?_
      refine mf_iload 0 dX12_does_236 rfl ?_
      refine mf_if_le (tgt := 251) dX12_does_238 (by decide) ?_ ?_
      · refine mf_iconst (v := 0) dX12_does_251 rfl ?_
        exact mf_ireturn dX12_does_252 rfl rfl ⟨rfl, rfl⟩
      · refine mf_iload 0 dX12_does_241 rfl ?_
        refine mf_bipush (v := 10) dX12_does_243 (by decide) ?_
        refine mf_iload_n 2 dX12_does_245 rfl ?_
        refine mf_imul dX12_does_246 ?_
        refine mf_iadd dX12_does_247 ?_
        refine mf_goto (tgt := 252) dX12_does_248 (by decide) ?_
        exact mf_ireturn dX12_does_252 rfl rfl ⟨rfl, rfl⟩
  refine mf_icmp_le (tgt := 222) dX12_does_215 (by decide) ?_ ?_
  · refine mf_iconst (v := 0) dX12_does_222 rfl ?_
    refine mf_sub [1, 2, 3] rfl ?_
    exact hJ223 _
  · refine mf_iconst (v := 1) dX12_does_218 rfl ?_
    refine mf_goto (tgt := 223) dX12_does_219 (by decide) ?_
    refine mf_sub [1, 2, 3] rfl ?_
    exact hJ223 _
