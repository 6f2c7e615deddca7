set_option maxRecDepth 100000 in
set_option maxHeartbeats 4000000 in
theorem aX12_thrown (d : Nat) (q : m_S) (hM : isM q)  : AC rI yX12_thrown cX12_thrown 1 (some .int) (d + 1) [.ref 218] q (fX12_thrown ) := by
  refine ac_of (by decide +kernel) (Nat.le_of_ble_eq_true rfl) ?_
  unfold fX12_thrown
  show MF rI (yX12_thrown.cls, cX12_thrown, 1, (some .int), yX12_thrown.name, d + 1, 0, 0) 0 [(0, .ref 218)] [] q _
  refine mf_aload_n 0 dX12_thrown_0 rfl ?_
  refine mf_geti 12 0 dX12_thrown_1 fl_X12_1 (by decide) (by decide) rfl (mo_o hM) (fun v1 => ?_)
  exact mf_ireturn dX12_thrown_4 rfl rfl ⟨rfl, rfl⟩
set_option maxRecDepth 100000 in
set_option maxHeartbeats 4000000 in
theorem aX12_throwsIf (d : Nat) (q : m_S) (hM : isM q) (a1 : Int32) : AC rI yX12_throwsIf cX12_throwsIf 2 (some .boolean) (d + 1) [.ref 218, .int a1] q (fX12_throwsIf a1) := by
  refine ac_of (by decide +kernel) (Nat.le_of_ble_eq_true rfl) ?_
  unfold fX12_throwsIf
  show MF rI (yX12_throwsIf.cls, cX12_throwsIf, 2, (some .boolean), yX12_throwsIf.name, d + 1, 0, 0) 0 [(0, .ref 218), (1, .int a1)] [] q _
  refine mf_aload_n 0 dX12_throwsIf_0 rfl ?_
  refine mf_iload_n 1 dX12_throwsIf_1 rfl ?_
  refine mf_if_eq (tgt := 9) dX12_throwsIf_2 (by decide) ?_ ?_
  · refine mf_iconst (v := 0) dX12_throwsIf_9 rfl ?_
    refine mf_puti 12 0 dX12_throwsIf_10 fl_X12_1 (by decide) (by decide) rfl rfl (mo_o hM) ?_
    refine mf_iload_n 1 dX12_throwsIf_13 rfl ?_
    exact mf_zreturn dX12_throwsIf_14 rfl ⟨rfl, rfl⟩
  · refine mf_iconst (v := 1) dX12_throwsIf_5 rfl ?_
    refine mf_goto (tgt := 10) dX12_throwsIf_6 (by decide) ?_
    refine mf_puti 12 0 dX12_throwsIf_10 fl_X12_1 (by decide) (by decide) rfl rfl (mo_o hM) ?_
    refine mf_iload_n 1 dX12_throwsIf_13 rfl ?_
    exact mf_zreturn dX12_throwsIf_14 rfl ⟨rfl, rfl⟩
set_option maxRecDepth 100000 in
set_option maxHeartbeats 4000000 in
theorem aX12_four (d : Nat) (q : m_S) (hM : isM q) (a1 : Int32) : AC rU yX12_four cX12_four 3 none (d + 1) [.ref 218, .int a1] q (fX12_four a1) := by
  refine ac_of (by decide +kernel) (Nat.le_of_ble_eq_true rfl) ?_
  unfold fX12_four
  show MF rU (yX12_four.cls, cX12_four, 3, none, yX12_four.name, d + 1, 0, 0) 0 [(0, .ref 218), (1, .int a1)] [] q _
  refine mf_bipush (v := 24) dX12_four_0 (by decide) ?_
  refine mf_istore_n [(2, .int 24), (0, .ref 218), (1, .int a1)] dX12_four_2 (Nat.le_of_ble_eq_true rfl) rfl ?_
  refine mf_sub [1, 2, 0] rfl ?_
  refine mf_lz1 (lv := fun x1 => [(0, .ref 218), (1, .int a1), (2, .int x1)]) (fun L3 h3 x1 => ?_) _ _
  show MF rU (yX12_four.cls, cX12_four, 3, none, yX12_four.name, d + 1, 0, 0) 3 [(0, .ref 218), (1, .int a1), (2, .int x1)] [] q _
  refine mf_iload_n 2 dX12_four_3 rfl ?_
  refine mf_if_lt (tgt := 36) dX12_four_4 (by decide) ?_ ?_
  · exact mf_return dX12_four_36 rfl ⟨rfl, rfl⟩
  · refine mf_aload_n 0 dX12_four_7 rfl ?_
    refine mf_getr 12 1 dX12_four_8 fl_X12_14 (by decide) (by decide) rfl (mo_o hM) (mo_r1 hM) (by decide) ?_
    refine mf_aload_n 0 dX12_four_11 rfl ?_
    refine mf_geti 12 2 dX12_four_12 fl_X12_7 (by decide) (by decide) rfl (mo_o hM) (fun v2 => ?_)
    refine mf_iload_n 1 dX12_four_15 rfl ?_
    refine mf_iload_n 2 dX12_four_16 rfl ?_
    refine mf_ishr dX12_four_17 ?_
    refine mf_i2b dX12_four_18 ?_
    refine mf_bast dX12_four_19 (mo_a1 hM) ?_
    refine mf_aload_n 0 dX12_four_20 rfl ?_
    refine mf_dup dX12_four_21 rfl ?_
    refine mf_geti 12 2 dX12_four_22 fl_X12_7 (by decide) (by decide) rfl (mo_o hM) (fun v3 => ?_)
    refine mf_iconst (v := 1) dX12_four_25 rfl ?_
    refine mf_iadd dX12_four_26 ?_
    refine mf_puti 12 2 dX12_four_27 fl_X12_7 (by decide) (by decide) rfl rfl (mo_o hM) ?_
    refine mf_iinc 2 (x1 + (-8)) [(2, .int (x1 + (-8))), (0, .ref 218), (1, .int a1)] dX12_four_30 rfl rfl (Nat.le_of_ble_eq_true rfl) rfl ?_
    refine mf_goto (tgt := 3) dX12_four_33 (by decide) ?_
    refine mf_sub [1, 2, 0] rfl ?_
    exact h3 _
set_option maxRecDepth 100000 in
set_option maxHeartbeats 4000000 in
theorem aX12_feed (d : Nat) (q : m_S) (hM : isM q) (a1 : Int32) (a2 : Int32) (a3 : Int32) (a4 : Int32) (a5 : Int32) : AC rI yX12_feed cX12_feed 6 (some .int) (d + 2) [.ref 218, .int a1, .int a2, .int a3, .int a4, .int a5] q (fX12_feed a1 a2 a3 a4 a5) := by
  refine ac_of (by decide +kernel) (Nat.le_of_ble_eq_true rfl) ?_
  unfold fX12_feed
  show MF rI (yX12_feed.cls, cX12_feed, 6, (some .int), yX12_feed.name, d + 2, 0, 0) 0 [(0, .ref 218), (1, .int a1), (2, .int a2), (3, .int a3), (4, .int a4), (5, .int a5)] [] q _
  refine mf_aload_n 0 dX12_feed_0 rfl ?_
  refine mf_iconst (v := 0) dX12_feed_1 rfl ?_
  refine mf_puti 12 0 dX12_feed_2 fl_X12_1 (by decide) (by decide) rfl rfl (mo_o hM) ?_
  refine mf_aload_n 0 dX12_feed_5 rfl ?_
  refine mf_geti 12 2 dX12_feed_6 fl_X12_7 (by decide) (by decide) rfl (mo_o hM) (fun v1 => ?_)
  refine mf_bipush (v := 20) dX12_feed_9 (by decide) ?_
  refine mf_iadd dX12_feed_11 ?_
  refine mf_sipush (v := 1460) dX12_feed_12 (by decide) ?_
  refine mf_icmp_le (tgt := 20) dX12_feed_15 (by decide) ?_ ?_
  · refine mf_aload_n 0 dX12_feed_20 rfl ?_
    refine mf_iload_n 1 dX12_feed_21 rfl ?_
    refine mf_cVv (rest := []) [.int a1] (aX12_four (d + 0) q hM a1) mY_X12_four dX12_feed_22 ml_X12_10 (mo_o hM) rfl rfl (Nat.le_of_ble_eq_true rfl) rfl (fun _ => ?_)
    refine mf_aload_n 0 dX12_feed_25 rfl ?_
    refine mf_iload_n 2 dX12_feed_26 rfl ?_
    refine mf_cVv (rest := []) [.int a2] (aX12_four (d + 0) q hM a2) mY_X12_four dX12_feed_27 ml_X12_10 (mo_o hM) rfl rfl (Nat.le_of_ble_eq_true rfl) rfl (fun _ => ?_)
    refine mf_aload_n 0 dX12_feed_30 rfl ?_
    refine mf_iload_n 3 dX12_feed_31 rfl ?_
    refine mf_cVv (rest := []) [.int a3] (aX12_four (d + 0) q hM a3) mY_X12_four dX12_feed_32 ml_X12_10 (mo_o hM) rfl rfl (Nat.le_of_ble_eq_true rfl) rfl (fun _ => ?_)
    refine mf_aload_n 0 dX12_feed_35 rfl ?_
    refine mf_iload 4 dX12_feed_36 rfl ?_
    refine mf_cVv (rest := []) [.int a4] (aX12_four (d + 0) q hM a4) mY_X12_four dX12_feed_38 ml_X12_10 (mo_o hM) rfl rfl (Nat.le_of_ble_eq_true rfl) rfl (fun _ => ?_)
    refine mf_aload_n 0 dX12_feed_41 rfl ?_
    refine mf_iload 5 dX12_feed_42 rfl ?_
    refine mf_cVv (rest := []) [.int a5] (aX12_four (d + 0) q hM a5) mY_X12_four dX12_feed_44 ml_X12_10 (mo_o hM) rfl rfl (Nat.le_of_ble_eq_true rfl) rfl (fun _ => ?_)
    refine mf_aload_n 0 dX12_feed_47 rfl ?_
    refine mf_geti 12 2 dX12_feed_48 fl_X12_7 (by decide) (by decide) rfl (mo_o hM) (fun v2 => ?_)
    exact mf_ireturn dX12_feed_51 rfl rfl ⟨rfl, rfl⟩
  · refine mf_iconst (v := -1) dX12_feed_18 rfl ?_
    exact mf_ireturn dX12_feed_19 rfl rfl ⟨rfl, rfl⟩
set_option maxRecDepth 100000 in
set_option maxHeartbeats 4000000 in
theorem aX12_end (d : Nat) (q : m_S) (hM : isM q) (a1 : Int32) : AC rI yX12_end cX12_end 2 (some .boolean) (d + 1) [.ref 218, .int a1] q (fX12_end a1) := by
  refine ac_of (by decide +kernel) (Nat.le_of_ble_eq_true rfl) ?_
  unfold fX12_end
  show MF rI (yX12_end.cls, cX12_end, 2, (some .boolean), yX12_end.name, d + 1, 0, 0) 0 [(0, .ref 218), (1, .int a1)] [] q _
  refine mf_aload_n 0 dX12_end_0 rfl ?_
  refine mf_iconst (v := 0) dX12_end_1 rfl ?_
  refine mf_puti 12 0 dX12_end_2 fl_X12_1 (by decide) (by decide) rfl rfl (mo_o hM) ?_
  refine mf_iload_n 1 dX12_end_5 rfl ?_
  refine mf_if_lt (tgt := 17) dX12_end_6 (by decide) ?_ ?_
  · refine mf_iconst (v := 0) dX12_end_17 rfl ?_
    exact mf_ireturn dX12_end_18 rfl rfl ⟨rfl, rfl⟩
  · refine mf_iload_n 1 dX12_end_9 rfl ?_
    refine mf_aload_n 0 dX12_end_10 rfl ?_
    refine mf_geti 12 2 dX12_end_11 fl_X12_7 (by decide) (by decide) rfl (mo_o hM) (fun v1 => ?_)
    refine mf_icmp_le (tgt := 19) dX12_end_14 (by decide) ?_ ?_
    · refine mf_aload_n 0 dX12_end_19 rfl ?_
      refine mf_iload_n 1 dX12_end_20 rfl ?_
      refine mf_puti 12 2 dX12_end_21 fl_X12_7 (by decide) (by decide) rfl rfl (mo_o hM) ?_
      refine mf_iconst (v := 1) dX12_end_24 rfl ?_
      exact mf_ireturn dX12_end_25 rfl rfl ⟨rfl, rfl⟩
    · refine mf_iconst (v := 0) dX12_end_17 rfl ?_
      exact mf_ireturn dX12_end_18 rfl rfl ⟨rfl, rfl⟩
set_option maxRecDepth 100000 in
set_option maxHeartbeats 4000000 in
theorem aX12_taken (d : Nat) (q : m_S) (hM : isM q) (a1 : Int32) : AC rU yX12_taken cX12_taken 2 none (d + 1) [.ref 218, .int a1] q (fX12_taken a1) := by
  refine ac_of (by decide +kernel) (Nat.le_of_ble_eq_true rfl) ?_
  unfold fX12_taken
  show MF rU (yX12_taken.cls, cX12_taken, 2, none, yX12_taken.name, d + 1, 0, 0) 0 [(0, .ref 218), (1, .int a1)] [] q _
  refine mf_aload_n 0 dX12_taken_0 rfl ?_
  refine mf_aload_n 0 dX12_taken_1 rfl ?_
  refine mf_geti 12 2 dX12_taken_2 fl_X12_7 (by decide) (by decide) rfl (mo_o hM) (fun v1 => ?_)
  refine mf_puti 12 3 dX12_taken_5 fl_X12_18 (by decide) (by decide) rfl rfl (mo_o hM) ?_
  refine mf_aload_n 0 dX12_taken_8 rfl ?_
  refine mf_iconst (v := 0) dX12_taken_9 rfl ?_
  refine mf_puti 12 2 dX12_taken_10 fl_X12_7 (by decide) (by decide) rfl rfl (mo_o hM) ?_
  refine mf_aload_n 0 dX12_taken_13 rfl ?_
  refine mf_iconst (v := 0) dX12_taken_14 rfl ?_
  refine mf_puti 12 4 dX12_taken_15 fl_X12_21 (by decide) (by decide) rfl rfl (mo_o hM) ?_
  refine mf_aload_n 0 dX12_taken_18 rfl ?_
  refine mf_iload_n 1 dX12_taken_19 rfl ?_
  refine mf_puti 12 5 dX12_taken_20 fl_X12_24 (by decide) (by decide) rfl rfl (mo_o hM) ?_
  exact mf_return dX12_taken_23 rfl ⟨rfl, rfl⟩
set_option maxRecDepth 100000 in
set_option maxHeartbeats 4000000 in
theorem aX12_isIn (d : Nat) (q : m_S)  (a1 : Int32) (a2 : Int32) (a3 : Int32) : AC rI yX12_isIn cX12_isIn 3 (some .boolean) (d + 1) [.int a1, .int a2, .int a3] q (fX12_isIn a1 a2 a3) := by
  refine ac_of (by decide +kernel) (Nat.le_of_ble_eq_true rfl) ?_
  unfold fX12_isIn
  show MF rI (yX12_isIn.cls, cX12_isIn, 3, (some .boolean), yX12_isIn.name, d + 1, 0, 0) 0 [(0, .int a1), (1, .int a2), (2, .int a3)] [] q _
  refine mf_iload_n 0 dX12_isIn_0 rfl ?_
  refine mf_iload_n 1 dX12_isIn_1 rfl ?_
  refine mf_icmp_lt (tgt := 14) dX12_isIn_2 (by decide) ?_ ?_
  · refine mf_iconst (v := 0) dX12_isIn_14 rfl ?_
    exact mf_ireturn dX12_isIn_15 rfl rfl ⟨rfl, rfl⟩
  · refine mf_iload_n 0 dX12_isIn_5 rfl ?_
    refine mf_iload_n 2 dX12_isIn_6 rfl ?_
    refine mf_icmp_gt (tgt := 14) dX12_isIn_7 (by decide) ?_ ?_
    · refine mf_iconst (v := 0) dX12_isIn_14 rfl ?_
      exact mf_ireturn dX12_isIn_15 rfl rfl ⟨rfl, rfl⟩
    · refine mf_iconst (v := 1) dX12_isIn_10 rfl ?_
      refine mf_goto (tgt := 15) dX12_isIn_11 (by decide) ?_
      exact mf_ireturn dX12_isIn_15 rfl rfl ⟨rfl, rfl⟩
set_option maxRecDepth 100000 in
set_option maxHeartbeats 4000000 in
theorem aX12_bitOf (d : Nat) (q : m_S)  (a1 : Int32) (a2 : Int32) : AC rI yX12_bitOf cX12_bitOf 2 (some .boolean) (d + 1) [.int a1, .int a2] q (fX12_bitOf a1 a2) := by
  refine ac_of (by decide +kernel) (Nat.le_of_ble_eq_true rfl) ?_
  unfold fX12_bitOf
  show MF rI (yX12_bitOf.cls, cX12_bitOf, 2, (some .boolean), yX12_bitOf.name, d + 1, 0, 0) 0 [(0, .int a1), (1, .int a2)] [] q _
  refine mf_iload_n 0 dX12_bitOf_0 rfl ?_
  refine mf_iload_n 1 dX12_bitOf_1 rfl ?_
  refine mf_ishr dX12_bitOf_2 ?_
  refine mf_iconst (v := 1) dX12_bitOf_3 rfl ?_
  refine mf_iand dX12_bitOf_4 ?_
  refine mf_iconst (v := 1) dX12_bitOf_5 rfl ?_
  refine mf_icmp_ne (tgt := 13) dX12_bitOf_6 (by decide) ?_ ?_
  · refine mf_iconst (v := 0) dX12_bitOf_13 rfl ?_
    exact mf_ireturn dX12_bitOf_14 rfl rfl ⟨rfl, rfl⟩
  · refine mf_iconst (v := 1) dX12_bitOf_9 rfl ?_
    refine mf_goto (tgt := 14) dX12_bitOf_10 (by decide) ?_
    exact mf_ireturn dX12_bitOf_14 rfl rfl ⟨rfl, rfl⟩
set_option maxRecDepth 100000 in
set_option maxHeartbeats 4000000 in
theorem aX12_lesser (d : Nat) (q : m_S)  (a1 : Int32) (a2 : Int32) : AC rI yX12_lesser cX12_lesser 2 (some .int) (d + 1) [.int a1, .int a2] q (fX12_lesser a1 a2) := by
  refine ac_of (by decide +kernel) (Nat.le_of_ble_eq_true rfl) ?_
  unfold fX12_lesser
  show MF rI (yX12_lesser.cls, cX12_lesser, 2, (some .int), yX12_lesser.name, d + 1, 0, 0) 0 [(0, .int a1), (1, .int a2)] [] q _
  refine mf_iload_n 0 dX12_lesser_0 rfl ?_
  refine mf_iload_n 1 dX12_lesser_1 rfl ?_
  refine mf_icmp_ge (tgt := 9) dX12_lesser_2 (by decide) ?_ ?_
  · refine mf_iload_n 1 dX12_lesser_9 rfl ?_
    exact mf_ireturn dX12_lesser_10 rfl rfl ⟨rfl, rfl⟩
  · refine mf_iload_n 0 dX12_lesser_5 rfl ?_
    refine mf_goto (tgt := 10) dX12_lesser_6 (by decide) ?_
    exact mf_ireturn dX12_lesser_10 rfl rfl ⟨rfl, rfl⟩
set_option maxRecDepth 100000 in
set_option maxHeartbeats 4000000 in
theorem aX12_greater (d : Nat) (q : m_S)  (a1 : Int32) (a2 : Int32) : AC rI yX12_greater cX12_greater 2 (some .int) (d + 1) [.int a1, .int a2] q (fX12_greater a1 a2) := by
  refine ac_of (by decide +kernel) (Nat.le_of_ble_eq_true rfl) ?_
  unfold fX12_greater
  show MF rI (yX12_greater.cls, cX12_greater, 2, (some .int), yX12_greater.name, d + 1, 0, 0) 0 [(0, .int a1), (1, .int a2)] [] q _
  refine mf_iload_n 0 dX12_greater_0 rfl ?_
  refine mf_iload_n 1 dX12_greater_1 rfl ?_
  refine mf_icmp_le (tgt := 9) dX12_greater_2 (by decide) ?_ ?_
  · refine mf_iload_n 1 dX12_greater_9 rfl ?_
    exact mf_ireturn dX12_greater_10 rfl rfl ⟨rfl, rfl⟩
  · refine mf_iload_n 0 dX12_greater_5 rfl ?_
    refine mf_goto (tgt := 10) dX12_greater_6 (by decide) ?_
    exact mf_ireturn dX12_greater_10 rfl rfl ⟨rfl, rfl⟩
set_option maxRecDepth 100000 in
set_option maxHeartbeats 4000000 in
theorem aX12_bits (d : Nat) (q : m_S)  (a1 : Int32) : AC rI yX12_bits cX12_bits 3 (some .int) (d + 1) [.int a1] q (fX12_bits a1) := by
  refine ac_of (by decide +kernel) (Nat.le_of_ble_eq_true rfl) ?_
  unfold fX12_bits
  show MF rI (yX12_bits.cls, cX12_bits, 3, (some .int), yX12_bits.name, d + 1, 0, 0) 0 [(0, .int a1)] [] q _
  refine mf_iconst (v := 0) dX12_bits_0 rfl ?_
  refine mf_istore_n [(1, .int 0), (0, .int a1)] dX12_bits_1 (Nat.le_of_ble_eq_true rfl) rfl ?_
  refine mf_iload_n 1 dX12_bits_2 rfl ?_
  refine mf_istore_n [(2, .int a1), (1, .int 0), (0, .int a1)] dX12_bits_3 (Nat.le_of_ble_eq_true rfl) rfl ?_
  refine mf_sub [1, 0] rfl ?_
  refine mf_lz2 (lv := fun x1 x2 => [(1, .int x1), (2, .int x2)]) (fun L4 h4 x1 x2 => ?_) _ _ _
  show MF rI (yX12_bits.cls, cX12_bits, 3, (some .int), yX12_bits.name, d + 1, 0, 0) 4 [(1, .int x1), (2, .int x2)] [] q _
  refine mf_iload_n 1 dX12_bits_4 rfl ?_
  refine mf_if_eq (tgt := 20) dX12_bits_5 (by decide) ?_ ?_
  · refine mf_iload_n 0 dX12_bits_20 rfl ?_
    exact mf_ireturn dX12_bits_21 rfl rfl ⟨rfl, rfl⟩
  · refine mf_iinc 0 (x1 + 1) [(1, .int (x1 + 1)), (2, .int x2)] dX12_bits_8 rfl rfl (Nat.le_of_ble_eq_true rfl) rfl ?_
    refine mf_iload_n 1 dX12_bits_11 rfl ?_
    refine mf_iload_n 1 dX12_bits_12 rfl ?_
    refine mf_iconst (v := 1) dX12_bits_13 rfl ?_
    refine mf_isub dX12_bits_14 ?_
    refine mf_iand dX12_bits_15 ?_
    refine mf_istore_n [(2, .int (x2 &&& (x2 - 1))), (1, .int (x1 + 1))] dX12_bits_16 (Nat.le_of_ble_eq_true rfl) rfl ?_
    refine mf_goto (tgt := 4) dX12_bits_17 (by decide) ?_
    refine mf_sub [1, 0] rfl ?_
    exact h4 _ _
set_option maxRecDepth 100000 in
set_option maxHeartbeats 4000000 in
theorem aX12_octet (d : Nat) (q : m_S) (hM : isM q) (a1 : Int32) : AC rI yX12_octet cX12_octet 2 (some .int) (d + 1) [.ref 218, .int a1] q (fX12_octet a1) := by
  refine ac_of (by decide +kernel) (Nat.le_of_ble_eq_true rfl) ?_
  unfold fX12_octet
  show MF rI (yX12_octet.cls, cX12_octet, 2, (some .int), yX12_octet.name, d + 1, 0, 0) 0 [(0, .ref 218), (1, .int a1)] [] q _
  refine mf_aload_n 0 dX12_octet_0 rfl ?_
  refine mf_getr 12 1 dX12_octet_1 fl_X12_14 (by decide) (by decide) rfl (mo_o hM) (mo_r1 hM) (by decide) ?_
  refine mf_iload_n 1 dX12_octet_4 rfl ?_
  refine mf_bald dX12_octet_5 (mo_a1 hM) (fun v1 => ?_)
  refine mf_sipush (v := 255) dX12_octet_6 (by decide) ?_
  refine mf_iand dX12_octet_9 ?_
  exact mf_ireturn dX12_octet_10 rfl rfl ⟨rfl, rfl⟩
set_option maxRecDepth 100000 in
set_option maxHeartbeats 4000000 in
theorem aX12_clears (d : Nat) (q : m_S) (hM : isM q)  : AC rU yX12_clears cX12_clears 2 none (d + 1) [.ref 218] q (fX12_clears ) := by
  refine ac_of (by decide +kernel) (Nat.le_of_ble_eq_true rfl) ?_
  unfold fX12_clears
  show MF rU (yX12_clears.cls, cX12_clears, 2, none, yX12_clears.name, d + 1, 0, 0) 0 [(0, .ref 218)] [] q _
  refine mf_iconst (v := 0) dX12_clears_0 rfl ?_
  refine mf_istore_n [(1, .int 0), (0, .ref 218)] dX12_clears_1 (Nat.le_of_ble_eq_true rfl) rfl ?_
  refine mf_sub [1, 0] rfl ?_
  refine mf_lz1 (lv := fun x1 => [(0, .ref 218), (1, .int x1)]) (fun L2 h2 x1 => ?_) _ _
  show MF rU (yX12_clears.cls, cX12_clears, 2, none, yX12_clears.name, d + 1, 0, 0) 2 [(0, .ref 218), (1, .int x1)] [] q _
  refine mf_iload_n 1 dX12_clears_2 rfl ?_
  refine mf_sipush (v := 226) dX12_clears_3 (by decide) ?_
  refine mf_icmp_ge (tgt := 22) dX12_clears_6 (by decide) ?_ ?_
  · refine mf_aload_n 0 dX12_clears_22 rfl ?_
    refine mf_getr 12 7 dX12_clears_23 fl_X12_37 (by decide) (by decide) rfl (mo_o hM) (mo_r7 hM) (by decide) ?_
    refine mf_bipush (v := 7) dX12_clears_26 (by decide) ?_
    refine mf_iconst (v := 3) dX12_clears_28 rfl ?_
    refine mf_iast dX12_clears_29 (mo_a7 hM) ?_
    exact mf_return dX12_clears_30 rfl ⟨rfl, rfl⟩
  · refine mf_aload_n 0 dX12_clears_9 rfl ?_
    refine mf_getr 12 7 dX12_clears_10 fl_X12_37 (by decide) (by decide) rfl (mo_o hM) (mo_r7 hM) (by decide) ?_
    refine mf_iload_n 1 dX12_clears_13 rfl ?_
    refine mf_iconst (v := 0) dX12_clears_14 rfl ?_
    refine mf_iast dX12_clears_15 (mo_a7 hM) ?_
    refine mf_iinc 1 (x1 + 1) [(1, .int (x1 + 1)), (0, .ref 218)] dX12_clears_16 rfl rfl (Nat.le_of_ble_eq_true rfl) rfl ?_
    refine mf_goto (tgt := 2) dX12_clears_19 (by decide) ?_
    refine mf_sub [1, 0] rfl ?_
    exact h2 _
set_option maxRecDepth 100000 in
set_option maxHeartbeats 4000000 in
theorem aX12_peek (d : Nat) (q : m_S) (hM : isM q)  : AC rI yX12_peek cX12_peek 1 (some .int) (d + 1) [.ref 218] q (fX12_peek ) := by
  refine ac_of (by decide +kernel) (Nat.le_of_ble_eq_true rfl) ?_
  unfold fX12_peek
  show MF rI (yX12_peek.cls, cX12_peek, 1, (some .int), yX12_peek.name, d + 1, 0, 0) 0 [(0, .ref 218)] [] q _
  refine mf_aload_n 0 dX12_peek_0 rfl ?_
  refine mf_geti 12 4 dX12_peek_1 fl_X12_21 (by decide) (by decide) rfl (mo_o hM) (fun v1 => ?_)
  refine mf_aload_n 0 dX12_peek_4 rfl ?_
  refine mf_geti 12 3 dX12_peek_5 fl_X12_18 (by decide) (by decide) rfl (mo_o hM) (fun v2 => ?_)
  refine mf_icmp_ge (tgt := 27) dX12_peek_8 (by decide) ?_ ?_
  · refine mf_iconst (v := -1) dX12_peek_27 rfl ?_
    exact mf_ireturn dX12_peek_28 rfl rfl ⟨rfl, rfl⟩
  · refine mf_aload_n 0 dX12_peek_11 rfl ?_
    refine mf_getr 12 1 dX12_peek_12 fl_X12_14 (by decide) (by decide) rfl (mo_o hM) (mo_r1 hM) (by decide) ?_
    refine mf_aload_n 0 dX12_peek_15 rfl ?_
    refine mf_geti 12 4 dX12_peek_16 fl_X12_21 (by decide) (by decide) rfl (mo_o hM) (fun v3 => ?_)
    refine mf_bald dX12_peek_19 (mo_a1 hM) (fun v4 => ?_)
    refine mf_sipush (v := 255) dX12_peek_20 (by decide) ?_
    refine mf_iand dX12_peek_23 ?_
    refine mf_goto (tgt := 28) dX12_peek_24 (by decide) ?_
    exact mf_ireturn dX12_peek_28 rfl rfl ⟨rfl, rfl⟩
set_option maxRecDepth 100000 in
set_option maxHeartbeats 4000000 in
theorem aX12_isSmall (d : Nat) (q : m_S)  (a1 : Int32) : AC rI yX12_isSmall cX12_isSmall 1 (some .boolean) (d + 1) [.int a1] q (fX12_isSmall a1) := by
  refine ac_of (by decide +kernel) (Nat.le_of_ble_eq_true rfl) ?_
  unfold fX12_isSmall
  show MF rI (yX12_isSmall.cls, cX12_isSmall, 1, (some .boolean), yX12_isSmall.name, d + 1, 0, 0) 0 [(0, .int a1)] [] q _
  refine mf_iload_n 0 dX12_isSmall_0 rfl ?_
  refine mf_bipush (v := 97) dX12_isSmall_1 (by decide) ?_
  refine mf_icmp_lt (tgt := 16) dX12_isSmall_3 (by decide) ?_ ?_
  · refine mf_iconst (v := 0) dX12_isSmall_16 rfl ?_
    exact mf_ireturn dX12_isSmall_17 rfl rfl ⟨rfl, rfl⟩
  · refine mf_iload_n 0 dX12_isSmall_6 rfl ?_
    refine mf_bipush (v := 122) dX12_isSmall_7 (by decide) ?_
    refine mf_icmp_gt (tgt := 16) dX12_isSmall_9 (by decide) ?_ ?_
    · refine mf_iconst (v := 0) dX12_isSmall_16 rfl ?_
      exact mf_ireturn dX12_isSmall_17 rfl rfl ⟨rfl, rfl⟩
    · refine mf_iconst (v := 1) dX12_isSmall_12 rfl ?_
      refine mf_goto (tgt := 17) dX12_isSmall_13 (by decide) ?_
      exact mf_ireturn dX12_isSmall_17 rfl rfl ⟨rfl, rfl⟩
set_option maxRecDepth 100000 in
set_option maxHeartbeats 4000000 in
theorem aX12_isDigit (d : Nat) (q : m_S)  (a1 : Int32) : AC rI yX12_isDigit cX12_isDigit 1 (some .boolean) (d + 1) [.int a1] q (fX12_isDigit a1) := by
  refine ac_of (by decide +kernel) (Nat.le_of_ble_eq_true rfl) ?_
  unfold fX12_isDigit
  show MF rI (yX12_isDigit.cls, cX12_isDigit, 1, (some .boolean), yX12_isDigit.name, d + 1, 0, 0) 0 [(0, .int a1)] [] q _
  refine mf_iload_n 0 dX12_isDigit_0 rfl ?_
  refine mf_bipush (v := 48) dX12_isDigit_1 (by decide) ?_
  refine mf_icmp_lt (tgt := 16) dX12_isDigit_3 (by decide) ?_ ?_
  · refine mf_iconst (v := 0) dX12_isDigit_16 rfl ?_
    exact mf_ireturn dX12_isDigit_17 rfl rfl ⟨rfl, rfl⟩
  · refine mf_iload_n 0 dX12_isDigit_6 rfl ?_
    refine mf_bipush (v := 57) dX12_isDigit_7 (by decide) ?_
    refine mf_icmp_gt (tgt := 16) dX12_isDigit_9 (by decide) ?_ ?_
    · refine mf_iconst (v := 0) dX12_isDigit_16 rfl ?_
      exact mf_ireturn dX12_isDigit_17 rfl rfl ⟨rfl, rfl⟩
    · refine mf_iconst (v := 1) dX12_isDigit_12 rfl ?_
      refine mf_goto (tgt := 17) dX12_isDigit_13 (by decide) ?_
      exact mf_ireturn dX12_isDigit_17 rfl rfl ⟨rfl, rfl⟩
set_option maxRecDepth 100000 in
set_option maxHeartbeats 4000000 in
theorem aX12_next (d : Nat) (q : m_S) (hM : isM q)  : AC rU yX12_next cX12_next 4 none (d + 2) [.ref 218] q (fX12_next ) := by
  refine ac_of (by decide +kernel) (Nat.le_of_ble_eq_true rfl) ?_
  unfold fX12_next
  show MF rU (yX12_next.cls, cX12_next, 4, none, yX12_next.name, d + 2, 0, 0) 0 [(0, .ref 218)] [] q _
  refine mf_lz0 (fun L0 h0  => ?_) _
  show MF rU (yX12_next.cls, cX12_next, 4, none, yX12_next.name, d + 2, 0, 0) 0 [(0, .ref 218)] [] q _
  refine mf_aload_n 0 dX12_next_0 rfl ?_
  refine mf_cVi (rest := []) [] (aX12_peek (d + 0) q hM) mY_X12_peek dX12_next_1 ml_X12_169 (mo_o hM) rfl rfl (Nat.le_of_ble_eq_true rfl) rfl (fun v1 => ?_)
  refine mf_bipush (v := 32) dX12_next_4 (by decide) ?_
  refine mf_icmp_eq (tgt := 18) dX12_next_6 (by decide) ?_ ?_
  · refine mf_aload_n 0 dX12_next_18 rfl ?_
    refine mf_dup dX12_next_19 rfl ?_
    refine mf_geti 12 4 dX12_next_20 fl_X12_21 (by decide) (by decide) rfl (mo_o hM) (fun v2 => ?_)
    refine mf_iconst (v := 1) dX12_next_23 rfl ?_
    refine mf_iadd dX12_next_24 ?_
    refine mf_puti 12 4 dX12_next_25 fl_X12_21 (by decide) (by decide) rfl rfl (mo_o hM) ?_
    refine mf_goto (tgt := 0) dX12_next_28 (by decide) ?_
    exact h0
  · refine mf_aload_n 0 dX12_next_9 rfl ?_
    refine mf_cVi (rest := []) [] (aX12_peek (d + 0) q hM) mY_X12_peek dX12_next_10 ml_X12_169 (mo_o hM) rfl rfl (Nat.le_of_ble_eq_true rfl) rfl (fun v3 => ?_)
    refine mf_bipush (v := 10) dX12_next_13 (by decide) ?_
    refine mf_icmp_ne (tgt := 31) dX12_next_15 (by decide) ?_ ?_
    · refine mf_aload_n 0 dX12_next_31 rfl ?_
      refine mf_aload_n 0 dX12_next_32 rfl ?_
      refine mf_geti 12 4 dX12_next_33 fl_X12_21 (by decide) (by decide) rfl (mo_o hM) (fun v4 => ?_)
      refine mf_puti 12 12 dX12_next_36 fl_X12_173 (by decide) (by decide) rfl rfl (mo_o hM) ?_
      refine mf_aload_n 0 dX12_next_39 rfl ?_
      refine mf_iconst (v := 0) dX12_next_40 rfl ?_
      refine mf_puti 12 13 dX12_next_41 fl_X12_176 (by decide) (by decide) rfl rfl (mo_o hM) ?_
      refine mf_aload_n 0 dX12_next_44 rfl ?_
      refine mf_geti 12 3 dX12_next_45 fl_X12_18 (by decide) (by decide) rfl (mo_o hM) (fun v5 => ?_)
      refine mf_aload_n 0 dX12_next_48 rfl ?_
      refine mf_geti 12 5 dX12_next_49 fl_X12_24 (by decide) (by decide) rfl (mo_o hM) (fun v6 => ?_)
      refine mf_jo0 (pj := 80) (lvj := [(0, .ref 218)]) (stj := []) ?_ (fun J80 hJ80 => ?_)
      · show MF rU (yX12_next.cls, cX12_next, 4, none, yX12_next.name, d + 2, 0, 0) 80 [(0, .ref 218)] [] q _
        refine mf_aload_n 0 dX12_next_80 rfl ?_
        refine mf_cVi (rest := []) [] (aX12_peek (d + 0) q hM) mY_X12_peek dX12_next_81 ml_X12_169 (mo_o hM) rfl rfl (Nat.le_of_ble_eq_true rfl) rfl (fun v7 => ?_)
        refine mf_istore_n [(1, .int v7), (0, .ref 218)] dX12_next_84 (Nat.le_of_ble_eq_true rfl) rfl ?_
        refine mf_iload_n 0 dX12_next_85 rfl ?_
        refine mf_if_ge (tgt := 95) dX12_next_86 (by decide) ?_ ?_
        · refine mf_iload_n 0 dX12_next_95 rfl ?_
          refine mf_cSi (rest := []) [.int v7] (aX12_isSmall (d + 0) q v7) mY_X12_isSmall dX12_next_96 ml_X12_182 rfl rfl (Nat.le_of_ble_eq_true rfl) rfl (fun v8 => ?_)
          refine mf_jo0 (pj := 164) (lvj := [(0, .ref 218), (1, .int v7)]) (stj := []) ?_ (fun J164 hJ164 => ?_)
          · show MF rU (yX12_next.cls, cX12_next, 4, none, yX12_next.name, d + 2, 0, 0) 164 [(0, .ref 218), (1, .int v7)] [] q _
            refine mf_iload_n 1 dX12_next_164 rfl ?_
            refine mf_cSi (rest := []) [.int v7] (aX12_isSmall (d + 0) q v7) mY_X12_isSmall dX12_next_165 ml_X12_182 rfl rfl (Nat.le_of_ble_eq_true rfl) rfl (fun v9 => ?_)
            refine mf_istore_n [(2, .int v9), (0, .ref 218), (1, .int v7)] dX12_next_168 (Nat.le_of_ble_eq_true rfl) rfl ?_
            refine mf_iconst (v := 1) dX12_next_169 rfl ?_
            refine mf_istore_n [(3, .int 1), (2, .int v9), (0, .ref 218), (1, .int v7)] dX12_next_170 (Nat.le_of_ble_eq_true rfl) rfl ?_
            refine mf_aload_n 2 dX12_next_171 rfl ?_
            refine mf_lconst (v := 0) dX12_next_172 (by decide) ?_
            refine mf_putl 12 17 dX12_next_173 fl_X12_192 (by decide) (by decide) rfl rfl (mo_o hM) ?_
            refine mf_aload_n 2 dX12_next_176 rfl ?_
            refine mf_iconst (v := 0) dX12_next_177 rfl ?_
            refine mf_puti 12 14 dX12_next_178 fl_X12_189 (by decide) (by decide) rfl rfl (mo_o hM) ?_
            refine mf_sub [2, 1, 0] rfl ?_
            refine mf_lz1 (lv := fun x10 => [(0, .ref 218), (2, .int v9), (3, .int x10)]) (fun L181 h181 x10 => ?_) _ _
            show MF rU (yX12_next.cls, cX12_next, 4, none, yX12_next.name, d + 2, 0, 0) 181 [(0, .ref 218), (2, .int v9), (3, .int x10)] [] q _
            refine mf_aload_n 0 dX12_next_181 rfl ?_
            refine mf_cVi (rest := []) [] (aX12_peek (d + 0) q hM) mY_X12_peek dX12_next_182 ml_X12_169 (mo_o hM) rfl rfl (Nat.le_of_ble_eq_true rfl) rfl (fun v11 => ?_)
            refine mf_cSi (rest := []) [.int v11] (aX12_isSmall (d + 0) q v11) mY_X12_isSmall dX12_next_185 ml_X12_182 rfl rfl (Nat.le_of_ble_eq_true rfl) rfl (fun v12 => ?_)
            refine mf_if_ne (tgt := 201) dX12_next_188 (by decide) ?_ ?_
            · refine mf_iload_n 2 dX12_next_201 rfl ?_
              refine mf_jo1 (pj := 221) (lvj := fun w13 => [(0, .ref 218), (2, .int v9)]) (stj := fun w13 => [.int w13]) (fun w13 => ?_) (fun J221 hJ221 => ?_)
              · show MF rU (yX12_next.cls, cX12_next, 4, none, yX12_next.name, d + 2, 0, 0) 221 [(0, .ref 218), (2, .int v9)] [.int w13] q _
                refine mf_istore_n [(3, .int w13), (0, .ref 218), (2, .int v9)] dX12_next_221 (Nat.le_of_ble_eq_true rfl) rfl ?_
                refine mf_aload_n 1 dX12_next_222 rfl ?_
                refine mf_geti 12 13 dX12_next_223 fl_X12_176 (by decide) (by decide) rfl (mo_o hM) (fun v14 => ?_)
                refine mf_bipush (v := 7) dX12_next_226 (by decide) ?_
                refine mf_jo0 (pj := 248) (lvj := [(0, .ref 218), (2, .int v9), (3, .int w13)]) (stj := []) ?_ (fun J248 hJ248 => ?_)
                · show MF rU (yX12_next.cls, cX12_next, 4, none, yX12_next.name, d + 2, 0, 0) 248 [(0, .ref 218), (2, .int v9), (3, .int w13)] [] q _
                  refine mf_aload_n 0 dX12_next_248 rfl ?_
                  refine mf_geti 12 13 dX12_next_249 fl_X12_176 (by decide) (by decide) rfl (mo_o hM) (fun v15 => ?_)
                  refine mf_iconst (v := 3) dX12_next_252 rfl ?_
                  refine mf_icmp_ge (tgt := 275) dX12_next_253 (by decide) ?_ ?_
                  · refine mf_aload_n 0 dX12_next_275 rfl ?_
                    refine mf_dup dX12_next_276 rfl ?_
                    refine mf_geti 12 13 dX12_next_277 fl_X12_176 (by decide) (by decide) rfl (mo_o hM) (fun v16 => ?_)
                    refine mf_iconst (v := 1) dX12_next_280 rfl ?_
                    refine mf_iadd dX12_next_281 ?_
                    refine mf_puti 12 13 dX12_next_282 fl_X12_176 (by decide) (by decide) rfl rfl (mo_o hM) ?_
                    refine mf_aload_n 0 dX12_next_285 rfl ?_
                    refine mf_dup dX12_next_286 rfl ?_
                    refine mf_geti 12 4 dX12_next_287 fl_X12_21 (by decide) (by decide) rfl (mo_o hM) (fun v17 => ?_)
                    refine mf_iconst (v := 1) dX12_next_290 rfl ?_
                    refine mf_iadd dX12_next_291 ?_
                    refine mf_puti 12 4 dX12_next_292 fl_X12_21 (by decide) (by decide) rfl rfl (mo_o hM) ?_
                    refine mf_goto (tgt := 181) dX12_next_295 (by decide) ?_
                    exact h181 _
                  · refine mf_aload_n 0 dX12_next_256 rfl ?_
                    refine mf_bipush (v := 10) dX12_next_257 (by decide) ?_
                    refine mf_aload_n 0 dX12_next_259 rfl ?_
                    refine mf_geti 12 14 dX12_next_260 fl_X12_189 (by decide) (by decide) rfl (mo_o hM) (fun v18 => ?_)
                    refine mf_imul dX12_next_263 ?_
                    refine mf_aload_n 0 dX12_next_264 rfl ?_
                    refine mf_cVi (rest := [.int (10 * v18), .ref 218]) [] (aX12_peek (d + 0) q hM) mY_X12_peek dX12_next_265 ml_X12_169 (mo_o hM) rfl rfl (Nat.le_of_ble_eq_true rfl) rfl (fun v19 => ?_)
                    refine mf_iadd dX12_next_268 ?_
                    refine mf_bipush (v := 48) dX12_next_269 (by decide) ?_
                    refine mf_isub dX12_next_271 ?_
                    refine mf_puti 12 14 dX12_next_272 fl_X12_189 (by decide) (by decide) rfl rfl (mo_o hM) ?_
                    refine mf_aload_n 0 dX12_next_275 rfl ?_
                    refine mf_dup dX12_next_276 rfl ?_
                    refine mf_geti 12 13 dX12_next_277 fl_X12_176 (by decide) (by decide) rfl (mo_o hM) (fun v20 => ?_)
                    refine mf_iconst (v := 1) dX12_next_280 rfl ?_
                    refine mf_iadd dX12_next_281 ?_
                    refine mf_puti 12 13 dX12_next_282 fl_X12_176 (by decide) (by decide) rfl rfl (mo_o hM) ?_
                    refine mf_aload_n 0 dX12_next_285 rfl ?_
                    refine mf_dup dX12_next_286 rfl ?_
                    refine mf_geti 12 4 dX12_next_287 fl_X12_21 (by decide) (by decide) rfl (mo_o hM) (fun v21 => ?_)
                    refine mf_iconst (v := 1) dX12_next_290 rfl ?_
                    refine mf_iadd dX12_next_291 ?_
                    refine mf_puti 12 4 dX12_next_292 fl_X12_21 (by decide) (by decide) rfl rfl (mo_o hM) ?_
                    refine mf_goto (tgt := 181) dX12_next_295 (by decide) ?_
                    exact h181 _
                refine mf_icmp_ge (tgt := 248) dX12_next_228 (by decide) ?_ ?_
                · refine mf_sub [1, 2, 0] rfl ?_
                  exact hJ248
                · refine mf_aload_n 1 dX12_next_231 rfl ?_
                  refine mf_aload_n 1 dX12_next_232 rfl ?_
                  refine mf_getl 12 17 dX12_next_233 fl_X12_192 (by decide) (by decide) rfl (mo_o hM) (fun v22 => ?_)
                  refine mf_bipush (v := 8) dX12_next_236 (by decide) ?_
                  refine mf_lshl dX12_next_238 ?_
                  refine mf_aload_n 1 dX12_next_239 rfl ?_
                  refine mf_cVi (rest := [.long (v22 <<< ((8 : Int32).toInt64 &&& 63)), .ref 218]) [] (aX12_peek (d + 0) q hM) mY_X12_peek dX12_next_240 ml_X12_169 (mo_o hM) rfl rfl (Nat.le_of_ble_eq_true rfl) rfl (fun v23 => ?_)
                  refine mf_i2l dX12_next_243 ?_
                  refine mf_lor dX12_next_244 ?_
                  refine mf_putl 12 17 dX12_next_245 fl_X12_192 (by decide) (by decide) rfl rfl (mo_o hM) ?_
                  refine mf_sub [1, 2, 0] rfl ?_
                  exact hJ248
              refine mf_if_eq (tgt := 220) dX12_next_202 (by decide) ?_ ?_
              · refine mf_iconst (v := 0) dX12_next_220 rfl ?_
                refine mf_sub [0, 1] rfl ?_
                exact hJ221 _
              · refine mf_aload_n 0 dX12_next_205 rfl ?_
                refine mf_cVi (rest := []) [] (aX12_peek (d + 0) q hM) mY_X12_peek dX12_next_206 ml_X12_169 (mo_o hM) rfl rfl (Nat.le_of_ble_eq_true rfl) rfl (fun v24 => ?_)
                refine mf_cSi (rest := []) [.int v24] (aX12_isSmall (d + 0) q v24) mY_X12_isSmall dX12_next_209 ml_X12_182 rfl rfl (Nat.le_of_ble_eq_true rfl) rfl (fun v25 => ?_)
                refine mf_iload_n 1 dX12_next_212 rfl ?_
                refine mf_icmp_ne (tgt := 220) dX12_next_213 (by decide) ?_ ?_
                · refine mf_iconst (v := 0) dX12_next_220 rfl ?_
                  refine mf_sub [0, 1] rfl ?_
                  exact hJ221 _
                · refine mf_iconst (v := 1) dX12_next_216 rfl ?_
                  refine mf_goto (tgt := 221) dX12_next_217 (by decide) ?_
                  refine mf_sub [0, 1] rfl ?_
                  exact hJ221 _
            · refine mf_aload_n 0 dX12_next_191 rfl ?_
              refine mf_cVi (rest := []) [] (aX12_peek (d + 0) q hM) mY_X12_peek dX12_next_192 ml_X12_169 (mo_o hM) rfl rfl (Nat.le_of_ble_eq_true rfl) rfl (fun v26 => ?_)
              refine mf_cSi (rest := []) [.int v26] (aX12_isDigit (d + 0) q v26) mY_X12_isDigit dX12_next_195 ml_X12_186 rfl rfl (Nat.le_of_ble_eq_true rfl) rfl (fun v27 => ?_)
              refine mf_if_eq (tgt := 298) dX12_next_198 (by decide) ?_ ?_
              · refine mf_aload_n 0 dX12_next_298 rfl ?_
                refine mf_iload_n 2 dX12_next_299 rfl ?_
                refine mf_if_eq (tgt := 320) dX12_next_300 (by decide) ?_ ?_
                · refine mf_iconst (v := 4) dX12_next_320 rfl ?_
                  refine mf_goto (tgt := 333) dX12_next_321 (by decide) ?_
                  refine mf_puti 12 11 dX12_next_333 fl_X12_179 (by decide) (by decide) rfl rfl (mo_o hM) ?_
                  exact mf_return dX12_next_336 rfl ⟨rfl, rfl⟩
                · refine mf_aload_n 0 dX12_next_303 rfl ?_
                  refine mf_geti 12 13 dX12_next_304 fl_X12_176 (by decide) (by decide) rfl (mo_o hM) (fun v28 => ?_)
                  refine mf_iload_n 1 dX12_next_307 rfl ?_
                  refine mf_if_eq (tgt := 316) dX12_next_308 (by decide) ?_ ?_
                  · refine mf_iconst (v := 3) dX12_next_316 rfl ?_
                    refine mf_icmp_le (tgt := 324) dX12_next_317 (by decide) ?_ ?_
                    · refine mf_iload_n 1 dX12_next_324 rfl ?_
                      refine mf_if_eq (tgt := 332) dX12_next_325 (by decide) ?_ ?_
                      · refine mf_iconst (v := 2) dX12_next_332 rfl ?_
                        refine mf_puti 12 11 dX12_next_333 fl_X12_179 (by decide) (by decide) rfl rfl (mo_o hM) ?_
                        exact mf_return dX12_next_336 rfl ⟨rfl, rfl⟩
                      · refine mf_iconst (v := 1) dX12_next_328 rfl ?_
                        refine mf_goto (tgt := 333) dX12_next_329 (by decide) ?_
                        refine mf_puti 12 11 dX12_next_333 fl_X12_179 (by decide) (by decide) rfl rfl (mo_o hM) ?_
                        exact mf_return dX12_next_336 rfl ⟨rfl, rfl⟩
                    · refine mf_iconst (v := 4) dX12_next_320 rfl ?_
                      refine mf_goto (tgt := 333) dX12_next_321 (by decide) ?_
                      refine mf_puti 12 11 dX12_next_333 fl_X12_179 (by decide) (by decide) rfl rfl (mo_o hM) ?_
                      exact mf_return dX12_next_336 rfl ⟨rfl, rfl⟩
                  · refine mf_bipush (v := 7) dX12_next_311 (by decide) ?_
                    refine mf_goto (tgt := 317) dX12_next_313 (by decide) ?_
                    refine mf_icmp_le (tgt := 324) dX12_next_317 (by decide) ?_ ?_
                    · refine mf_iload_n 1 dX12_next_324 rfl ?_
                      refine mf_if_eq (tgt := 332) dX12_next_325 (by decide) ?_ ?_
                      · refine mf_iconst (v := 2) dX12_next_332 rfl ?_
                        refine mf_puti 12 11 dX12_next_333 fl_X12_179 (by decide) (by decide) rfl rfl (mo_o hM) ?_
                        exact mf_return dX12_next_336 rfl ⟨rfl, rfl⟩
                      · refine mf_iconst (v := 1) dX12_next_328 rfl ?_
                        refine mf_goto (tgt := 333) dX12_next_329 (by decide) ?_
                        refine mf_puti 12 11 dX12_next_333 fl_X12_179 (by decide) (by decide) rfl rfl (mo_o hM) ?_
                        exact mf_return dX12_next_336 rfl ⟨rfl, rfl⟩
                    · refine mf_iconst (v := 4) dX12_next_320 rfl ?_
                      refine mf_goto (tgt := 333) dX12_next_321 (by decide) ?_
                      refine mf_puti 12 11 dX12_next_333 fl_X12_179 (by decide) (by decide) rfl rfl (mo_o hM) ?_
                      exact mf_return dX12_next_336 rfl ⟨rfl, rfl⟩
              · refine mf_iload_n 2 dX12_next_201 rfl ?_
                refine mf_jo1 (pj := 221) (lvj := fun w29 => [(0, .ref 218), (2, .int v9)]) (stj := fun w29 => [.int w29]) (fun w29 => ?_) (fun J221 hJ221 => ?_)
                · show MF rU (yX12_next.cls, cX12_next, 4, none, yX12_next.name, d + 2, 0, 0) 221 [(0, .ref 218), (2, .int v9)] [.int w29] q _
                  refine mf_istore_n [(3, .int w29), (0, .ref 218), (2, .int v9)] dX12_next_221 (Nat.le_of_ble_eq_true rfl) rfl ?_
                  refine mf_aload_n 1 dX12_next_222 rfl ?_
                  refine mf_geti 12 13 dX12_next_223 fl_X12_176 (by decide) (by decide) rfl (mo_o hM) (fun v30 => ?_)
                  refine mf_bipush (v := 7) dX12_next_226 (by decide) ?_
                  refine mf_jo0 (pj := 248) (lvj := [(0, .ref 218), (2, .int v9), (3, .int w29)]) (stj := []) ?_ (fun J248 hJ248 => ?_)
                  · show MF rU (yX12_next.cls, cX12_next, 4, none, yX12_next.name, d + 2, 0, 0) 248 [(0, .ref 218), (2, .int v9), (3, .int w29)] [] q _
                    refine mf_aload_n 0 dX12_next_248 rfl ?_
                    refine mf_geti 12 13 dX12_next_249 fl_X12_176 (by decide) (by decide) rfl (mo_o hM) (fun v31 => ?_)
                    refine mf_iconst (v := 3) dX12_next_252 rfl ?_
                    refine mf_icmp_ge (tgt := 275) dX12_next_253 (by decide) ?_ ?_
                    · refine mf_aload_n 0 dX12_next_275 rfl ?_
                      refine mf_dup dX12_next_276 rfl ?_
                      refine mf_geti 12 13 dX12_next_277 fl_X12_176 (by decide) (by decide) rfl (mo_o hM) (fun v32 => ?_)
                      refine mf_iconst (v := 1) dX12_next_280 rfl ?_
                      refine mf_iadd dX12_next_281 ?_
                      refine mf_puti 12 13 dX12_next_282 fl_X12_176 (by decide) (by decide) rfl rfl (mo_o hM) ?_
                      refine mf_aload_n 0 dX12_next_285 rfl ?_
                      refine mf_dup dX12_next_286 rfl ?_
                      refine mf_geti 12 4 dX12_next_287 fl_X12_21 (by decide) (by decide) rfl (mo_o hM) (fun v33 => ?_)
                      refine mf_iconst (v := 1) dX12_next_290 rfl ?_
                      refine mf_iadd dX12_next_291 ?_
                      refine mf_puti 12 4 dX12_next_292 fl_X12_21 (by decide) (by decide) rfl rfl (mo_o hM) ?_
                      refine mf_goto (tgt := 181) dX12_next_295 (by decide) ?_
                      exact h181 _
                    · refine mf_aload_n 0 dX12_next_256 rfl ?_
                      refine mf_bipush (v := 10) dX12_next_257 (by decide) ?_
                      refine mf_aload_n 0 dX12_next_259 rfl ?_
                      refine mf_geti 12 14 dX12_next_260 fl_X12_189 (by decide) (by decide) rfl (mo_o hM) (fun v34 => ?_)
                      refine mf_imul dX12_next_263 ?_
                      refine mf_aload_n 0 dX12_next_264 rfl ?_
                      refine mf_cVi (rest := [.int (10 * v34), .ref 218]) [] (aX12_peek (d + 0) q hM) mY_X12_peek dX12_next_265 ml_X12_169 (mo_o hM) rfl rfl (Nat.le_of_ble_eq_true rfl) rfl (fun v35 => ?_)
                      refine mf_iadd dX12_next_268 ?_
                      refine mf_bipush (v := 48) dX12_next_269 (by decide) ?_
                      refine mf_isub dX12_next_271 ?_
                      refine mf_puti 12 14 dX12_next_272 fl_X12_189 (by decide) (by decide) rfl rfl (mo_o hM) ?_
                      refine mf_aload_n 0 dX12_next_275 rfl ?_
                      refine mf_dup dX12_next_276 rfl ?_
                      refine mf_geti 12 13 dX12_next_277 fl_X12_176 (by decide) (by decide) rfl (mo_o hM) (fun v36 => ?_)
                      refine mf_iconst (v := 1) dX12_next_280 rfl ?_
                      refine mf_iadd dX12_next_281 ?_
                      refine mf_puti 12 13 dX12_next_282 fl_X12_176 (by decide) (by decide) rfl rfl (mo_o hM) ?_
                      refine mf_aload_n 0 dX12_next_285 rfl ?_
                      refine mf_dup dX12_next_286 rfl ?_
                      refine mf_geti 12 4 dX12_next_287 fl_X12_21 (by decide) (by decide) rfl (mo_o hM) (fun v37 => ?_)
                      refine mf_iconst (v := 1) dX12_next_290 rfl ?_
                      refine mf_iadd dX12_next_291 ?_
                      refine mf_puti 12 4 dX12_next_292 fl_X12_21 (by decide) (by decide) rfl rfl (mo_o hM) ?_
                      refine mf_goto (tgt := 181) dX12_next_295 (by decide) ?_
                      exact h181 _
                  refine mf_icmp_ge (tgt := 248) dX12_next_228 (by decide) ?_ ?_
                  · refine mf_sub [1, 2, 0] rfl ?_
                    exact hJ248
                  · refine mf_aload_n 1 dX12_next_231 rfl ?_
                    refine mf_aload_n 1 dX12_next_232 rfl ?_
                    refine mf_getl 12 17 dX12_next_233 fl_X12_192 (by decide) (by decide) rfl (mo_o hM) (fun v38 => ?_)
                    refine mf_bipush (v := 8) dX12_next_236 (by decide) ?_
                    refine mf_lshl dX12_next_238 ?_
                    refine mf_aload_n 1 dX12_next_239 rfl ?_
                    refine mf_cVi (rest := [.long (v38 <<< ((8 : Int32).toInt64 &&& 63)), .ref 218]) [] (aX12_peek (d + 0) q hM) mY_X12_peek dX12_next_240 ml_X12_169 (mo_o hM) rfl rfl (Nat.le_of_ble_eq_true rfl) rfl (fun v39 => ?_)
                    refine mf_i2l dX12_next_243 ?_
                    refine mf_lor dX12_next_244 ?_
                    refine mf_putl 12 17 dX12_next_245 fl_X12_192 (by decide) (by decide) rfl rfl (mo_o hM) ?_
                    refine mf_sub [1, 2, 0] rfl ?_
                    exact hJ248
                refine mf_if_eq (tgt := 220) dX12_next_202 (by decide) ?_ ?_
                · refine mf_iconst (v := 0) dX12_next_220 rfl ?_
                  refine mf_sub [0, 1] rfl ?_
                  exact hJ221 _
                · refine mf_aload_n 0 dX12_next_205 rfl ?_
                  refine mf_cVi (rest := []) [] (aX12_peek (d + 0) q hM) mY_X12_peek dX12_next_206 ml_X12_169 (mo_o hM) rfl rfl (Nat.le_of_ble_eq_true rfl) rfl (fun v40 => ?_)
                  refine mf_cSi (rest := []) [.int v40] (aX12_isSmall (d + 0) q v40) mY_X12_isSmall dX12_next_209 ml_X12_182 rfl rfl (Nat.le_of_ble_eq_true rfl) rfl (fun v41 => ?_)
                  refine mf_iload_n 1 dX12_next_212 rfl ?_
                  refine mf_icmp_ne (tgt := 220) dX12_next_213 (by decide) ?_ ?_
                  · refine mf_iconst (v := 0) dX12_next_220 rfl ?_
                    refine mf_sub [0, 1] rfl ?_
                    exact hJ221 _
                  · refine mf_iconst (v := 1) dX12_next_216 rfl ?_
                    refine mf_goto (tgt := 221) dX12_next_217 (by decide) ?_
                    refine mf_sub [0, 1] rfl ?_
                    exact hJ221 _
          refine mf_if_ne (tgt := 164) dX12_next_99 (by decide) ?_ ?_
          · refine mf_sub [1, 0] rfl ?_
            exact hJ164
          · refine mf_iload_n 0 dX12_next_102 rfl ?_
            refine mf_cSi (rest := []) [.int v7] (aX12_isDigit (d + 0) q v7) mY_X12_isDigit dX12_next_103 ml_X12_186 rfl rfl (Nat.le_of_ble_eq_true rfl) rfl (fun v42 => ?_)
            refine mf_if_ne (tgt := 164) dX12_next_106 (by decide) ?_ ?_
            · refine mf_sub [1, 0] rfl ?_
              exact hJ164
            · refine mf_aload_n 1 dX12_next_109 rfl ?_
              refine mf_iload_n 0 dX12_next_110 rfl ?_
              refine mf_bipush (v := 59) dX12_next_111 (by decide) ?_
              refine mf_icmp_eq (tgt := 140) dX12_next_113 (by decide) ?_ ?_
              · refine mf_iconst (v := 3) dX12_next_140 rfl ?_
                refine mf_goto (tgt := 145) dX12_next_141 (by decide) ?_
                refine mf_puti 12 11 dX12_next_145 fl_X12_179 (by decide) (by decide) rfl rfl (mo_o hM) ?_
                refine mf_aload_n 1 dX12_next_148 rfl ?_
                refine mf_iload_n 0 dX12_next_149 rfl ?_
                refine mf_puti 12 14 dX12_next_150 fl_X12_189 (by decide) (by decide) rfl rfl (mo_o hM) ?_
                refine mf_aload_n 1 dX12_next_153 rfl ?_
                refine mf_dup dX12_next_154 rfl ?_
                refine mf_geti 12 4 dX12_next_155 fl_X12_21 (by decide) (by decide) rfl (mo_o hM) (fun v43 => ?_)
                refine mf_iconst (v := 1) dX12_next_158 rfl ?_
                refine mf_iadd dX12_next_159 ?_
                refine mf_puti 12 4 dX12_next_160 fl_X12_21 (by decide) (by decide) rfl rfl (mo_o hM) ?_
                exact mf_return dX12_next_163 rfl ⟨rfl, rfl⟩
              · refine mf_iload_n 0 dX12_next_116 rfl ?_
                refine mf_bipush (v := 40) dX12_next_117 (by decide) ?_
                refine mf_icmp_eq (tgt := 140) dX12_next_119 (by decide) ?_ ?_
                · refine mf_iconst (v := 3) dX12_next_140 rfl ?_
                  refine mf_goto (tgt := 145) dX12_next_141 (by decide) ?_
                  refine mf_puti 12 11 dX12_next_145 fl_X12_179 (by decide) (by decide) rfl rfl (mo_o hM) ?_
                  refine mf_aload_n 1 dX12_next_148 rfl ?_
                  refine mf_iload_n 0 dX12_next_149 rfl ?_
                  refine mf_puti 12 14 dX12_next_150 fl_X12_189 (by decide) (by decide) rfl rfl (mo_o hM) ?_
                  refine mf_aload_n 1 dX12_next_153 rfl ?_
                  refine mf_dup dX12_next_154 rfl ?_
                  refine mf_geti 12 4 dX12_next_155 fl_X12_21 (by decide) (by decide) rfl (mo_o hM) (fun v44 => ?_)
                  refine mf_iconst (v := 1) dX12_next_158 rfl ?_
                  refine mf_iadd dX12_next_159 ?_
                  refine mf_puti 12 4 dX12_next_160 fl_X12_21 (by decide) (by decide) rfl rfl (mo_o hM) ?_
                  exact mf_return dX12_next_163 rfl ⟨rfl, rfl⟩
                · refine mf_iload_n 0 dX12_next_122 rfl ?_
                  refine mf_bipush (v := 41) dX12_next_123 (by decide) ?_
                  refine mf_icmp_eq (tgt := 140) dX12_next_125 (by decide) ?_ ?_
                  · refine mf_iconst (v := 3) dX12_next_140 rfl ?_
                    refine mf_goto (tgt := 145) dX12_next_141 (by decide) ?_
                    refine mf_puti 12 11 dX12_next_145 fl_X12_179 (by decide) (by decide) rfl rfl (mo_o hM) ?_
                    refine mf_aload_n 1 dX12_next_148 rfl ?_
                    refine mf_iload_n 0 dX12_next_149 rfl ?_
                    refine mf_puti 12 14 dX12_next_150 fl_X12_189 (by decide) (by decide) rfl rfl (mo_o hM) ?_
                    refine mf_aload_n 1 dX12_next_153 rfl ?_
                    refine mf_dup dX12_next_154 rfl ?_
                    refine mf_geti 12 4 dX12_next_155 fl_X12_21 (by decide) (by decide) rfl (mo_o hM) (fun v45 => ?_)
                    refine mf_iconst (v := 1) dX12_next_158 rfl ?_
                    refine mf_iadd dX12_next_159 ?_
                    refine mf_puti 12 4 dX12_next_160 fl_X12_21 (by decide) (by decide) rfl rfl (mo_o hM) ?_
                    exact mf_return dX12_next_163 rfl ⟨rfl, rfl⟩
                  · refine mf_iload_n 0 dX12_next_128 rfl ?_
                    refine mf_bipush (v := 60) dX12_next_129 (by decide) ?_
                    refine mf_icmp_lt (tgt := 144) dX12_next_131 (by decide) ?_ ?_
                    · refine mf_iconst (v := 4) dX12_next_144 rfl ?_
                      refine mf_puti 12 11 dX12_next_145 fl_X12_179 (by decide) (by decide) rfl rfl (mo_o hM) ?_
                      refine mf_aload_n 1 dX12_next_148 rfl ?_
                      refine mf_iload_n 0 dX12_next_149 rfl ?_
                      refine mf_puti 12 14 dX12_next_150 fl_X12_189 (by decide) (by decide) rfl rfl (mo_o hM) ?_
                      refine mf_aload_n 1 dX12_next_153 rfl ?_
                      refine mf_dup dX12_next_154 rfl ?_
                      refine mf_geti 12 4 dX12_next_155 fl_X12_21 (by decide) (by decide) rfl (mo_o hM) (fun v46 => ?_)
                      refine mf_iconst (v := 1) dX12_next_158 rfl ?_
                      refine mf_iadd dX12_next_159 ?_
                      refine mf_puti 12 4 dX12_next_160 fl_X12_21 (by decide) (by decide) rfl rfl (mo_o hM) ?_
                      exact mf_return dX12_next_163 rfl ⟨rfl, rfl⟩
                    · refine mf_iload_n 0 dX12_next_134 rfl ?_
                      refine mf_bipush (v := 62) dX12_next_135 (by decide) ?_
                      refine mf_icmp_gt (tgt := 144) dX12_next_137 (by decide) ?_ ?_
                      · refine mf_iconst (v := 4) dX12_next_144 rfl ?_
                        refine mf_puti 12 11 dX12_next_145 fl_X12_179 (by decide) (by decide) rfl rfl (mo_o hM) ?_
                        refine mf_aload_n 1 dX12_next_148 rfl ?_
                        refine mf_iload_n 0 dX12_next_149 rfl ?_
                        refine mf_puti 12 14 dX12_next_150 fl_X12_189 (by decide) (by decide) rfl rfl (mo_o hM) ?_
                        refine mf_aload_n 1 dX12_next_153 rfl ?_
                        refine mf_dup dX12_next_154 rfl ?_
                        refine mf_geti 12 4 dX12_next_155 fl_X12_21 (by decide) (by decide) rfl (mo_o hM) (fun v47 => ?_)
                        refine mf_iconst (v := 1) dX12_next_158 rfl ?_
                        refine mf_iadd dX12_next_159 ?_
                        refine mf_puti 12 4 dX12_next_160 fl_X12_21 (by decide) (by decide) rfl rfl (mo_o hM) ?_
                        exact mf_return dX12_next_163 rfl ⟨rfl, rfl⟩
                      · refine mf_iconst (v := 3) dX12_next_140 rfl ?_
                        refine mf_goto (tgt := 145) dX12_next_141 (by decide) ?_
                        refine mf_puti 12 11 dX12_next_145 fl_X12_179 (by decide) (by decide) rfl rfl (mo_o hM) ?_
                        refine mf_aload_n 1 dX12_next_148 rfl ?_
                        refine mf_iload_n 0 dX12_next_149 rfl ?_
                        refine mf_puti 12 14 dX12_next_150 fl_X12_189 (by decide) (by decide) rfl rfl (mo_o hM) ?_
                        refine mf_aload_n 1 dX12_next_153 rfl ?_
                        refine mf_dup dX12_next_154 rfl ?_
                        refine mf_geti 12 4 dX12_next_155 fl_X12_21 (by decide) (by decide) rfl (mo_o hM) (fun v48 => ?_)
                        refine mf_iconst (v := 1) dX12_next_158 rfl ?_
                        refine mf_iadd dX12_next_159 ?_
                        refine mf_puti 12 4 dX12_next_160 fl_X12_21 (by decide) (by decide) rfl rfl (mo_o hM) ?_
                        exact mf_return dX12_next_163 rfl ⟨rfl, rfl⟩
        · refine mf_aload_n 1 dX12_next_89 rfl ?_
          refine mf_iconst (v := 0) dX12_next_90 rfl ?_
          refine mf_puti 12 11 dX12_next_91 fl_X12_179 (by decide) (by decide) rfl rfl (mo_o hM) ?_
          exact mf_return dX12_next_94 rfl ⟨rfl, rfl⟩
      refine mf_icmp_le (tgt := 80) dX12_next_52 (by decide) ?_ ?_
      · exact hJ80
      · refine mf_aload_n 0 dX12_next_55 rfl ?_
        refine mf_geti 12 4 dX12_next_56 fl_X12_21 (by decide) (by decide) rfl (mo_o hM) (fun v49 => ?_)
        refine mf_aload_n 0 dX12_next_59 rfl ?_
        refine mf_geti 12 5 dX12_next_60 fl_X12_24 (by decide) (by decide) rfl (mo_o hM) (fun v50 => ?_)
        refine mf_icmp_lt (tgt := 80) dX12_next_63 (by decide) ?_ ?_
        · exact hJ80
        · refine mf_aload_n 0 dX12_next_66 rfl ?_
          refine mf_aload_n 0 dX12_next_67 rfl ?_
          refine mf_geti 12 5 dX12_next_68 fl_X12_24 (by decide) (by decide) rfl (mo_o hM) (fun v51 => ?_)
          refine mf_puti 12 12 dX12_next_71 fl_X12_173 (by decide) (by decide) rfl rfl (mo_o hM) ?_
          refine mf_aload_n 0 dX12_next_74 rfl ?_
          refine mf_iconst (v := 4) dX12_next_75 rfl ?_
          refine mf_puti 12 11 dX12_next_76 fl_X12_179 (by decide) (by decide) rfl rfl (mo_o hM) ?_
          exact mf_return dX12_next_79 rfl ⟨rfl, rfl⟩
    · refine mf_aload_n 0 dX12_next_18 rfl ?_
      refine mf_dup dX12_next_19 rfl ?_
      refine mf_geti 12 4 dX12_next_20 fl_X12_21 (by decide) (by decide) rfl (mo_o hM) (fun v52 => ?_)
      refine mf_iconst (v := 1) dX12_next_23 rfl ?_
      refine mf_iadd dX12_next_24 ?_
      refine mf_puti 12 4 dX12_next_25 fl_X12_21 (by decide) (by decide) rfl rfl (mo_o hM) ?_
      refine mf_goto (tgt := 0) dX12_next_28 (by decide) ?_
      exact h0
set_option maxRecDepth 100000 in
set_option maxHeartbeats 4000000 in
theorem aX12_bad (d : Nat) (q : m_S) (hM : isM q) (a1 : Int32) : AC rI yX12_bad cX12_bad 2 (some .boolean) (d + 1) [.ref 218, .int a1] q (fX12_bad a1) := by
  refine ac_of (by decide +kernel) (Nat.le_of_ble_eq_true rfl) ?_
  unfold fX12_bad
  show MF rI (yX12_bad.cls, cX12_bad, 2, (some .boolean), yX12_bad.name, d + 1, 0, 0) 0 [(0, .ref 218), (1, .int a1)] [] q _
  refine mf_aload_n 0 dX12_bad_0 rfl ?_
  refine mf_iload_n 1 dX12_bad_1 rfl ?_
  refine mf_puti 12 15 dX12_bad_2 fl_X12_196 (by decide) (by decide) rfl rfl (mo_o hM) ?_
  refine mf_aload_n 0 dX12_bad_5 rfl ?_
  refine mf_aload_n 0 dX12_bad_6 rfl ?_
  refine mf_geti 12 12 dX12_bad_7 fl_X12_173 (by decide) (by decide) rfl (mo_o hM) (fun v1 => ?_)
  refine mf_puti 12 16 dX12_bad_10 fl_X12_199 (by decide) (by decide) rfl rfl (mo_o hM) ?_
  refine mf_iconst (v := 0) dX12_bad_13 rfl ?_
  exact mf_ireturn dX12_bad_14 rfl rfl ⟨rfl, rfl⟩
set_option maxRecDepth 100000 in
set_option maxHeartbeats 4000000 in
theorem aX12_isWord (d : Nat) (q : m_S) (hM : isM q) (a1 : Int64) : AC rI yX12_isWord cX12_isWord 3 (some .boolean) (d + 1) [.ref 218, .long a1] q (fX12_isWord a1) := by
  refine ac_of (by decide +kernel) (Nat.le_of_ble_eq_true rfl) ?_
  unfold fX12_isWord
  show MF rI (yX12_isWord.cls, cX12_isWord, 3, (some .boolean), yX12_isWord.name, d + 1, 0, 0) 0 [(0, .ref 218), (1, .long a1)] [] q _
  refine mf_aload_n 0 dX12_isWord_0 rfl ?_
  refine mf_geti 12 11 dX12_isWord_1 fl_X12_179 (by decide) (by decide) rfl (mo_o hM) (fun v1 => ?_)
  refine mf_iconst (v := 1) dX12_isWord_4 rfl ?_
  refine mf_icmp_ne (tgt := 21) dX12_isWord_5 (by decide) ?_ ?_
  · refine mf_iconst (v := 0) dX12_isWord_21 rfl ?_
    exact mf_ireturn dX12_isWord_22 rfl rfl ⟨rfl, rfl⟩
  · refine mf_aload_n 0 dX12_isWord_8 rfl ?_
    refine mf_getl 12 17 dX12_isWord_9 fl_X12_192 (by decide) (by decide) rfl (mo_o hM) (fun v2 => ?_)
    refine mf_lload_n 1 dX12_isWord_12 rfl ?_
    refine mf_lcmp dX12_isWord_13 ?_
    refine mf_if_ne (tgt := 21) dX12_isWord_14 (by decide) ?_ ?_
    · refine mf_iconst (v := 0) dX12_isWord_21 rfl ?_
      exact mf_ireturn dX12_isWord_22 rfl rfl ⟨rfl, rfl⟩
    · refine mf_iconst (v := 1) dX12_isWord_17 rfl ?_
      refine mf_goto (tgt := 22) dX12_isWord_18 (by decide) ?_
      exact mf_ireturn dX12_isWord_22 rfl rfl ⟨rfl, rfl⟩
set_option maxRecDepth 100000 in
set_option maxHeartbeats 4000000 in
theorem aX12_isSign (d : Nat) (q : m_S) (hM : isM q) (a1 : Int32) : AC rI yX12_isSign cX12_isSign 2 (some .boolean) (d + 1) [.ref 218, .int a1] q (fX12_isSign a1) := by
  refine ac_of (by decide +kernel) (Nat.le_of_ble_eq_true rfl) ?_
  unfold fX12_isSign
  show MF rI (yX12_isSign.cls, cX12_isSign, 2, (some .boolean), yX12_isSign.name, d + 1, 0, 0) 0 [(0, .ref 218), (1, .int a1)] [] q _
  refine mf_aload_n 0 dX12_isSign_0 rfl ?_
  refine mf_geti 12 11 dX12_isSign_1 fl_X12_179 (by decide) (by decide) rfl (mo_o hM) (fun v1 => ?_)
  refine mf_iconst (v := 3) dX12_isSign_4 rfl ?_
  refine mf_icmp_ne (tgt := 20) dX12_isSign_5 (by decide) ?_ ?_
  · refine mf_iconst (v := 0) dX12_isSign_20 rfl ?_
    exact mf_ireturn dX12_isSign_21 rfl rfl ⟨rfl, rfl⟩
  · refine mf_aload_n 0 dX12_isSign_8 rfl ?_
    refine mf_geti 12 14 dX12_isSign_9 fl_X12_189 (by decide) (by decide) rfl (mo_o hM) (fun v2 => ?_)
    refine mf_iload_n 1 dX12_isSign_12 rfl ?_
    refine mf_icmp_ne (tgt := 20) dX12_isSign_13 (by decide) ?_ ?_
    · refine mf_iconst (v := 0) dX12_isSign_20 rfl ?_
      exact mf_ireturn dX12_isSign_21 rfl rfl ⟨rfl, rfl⟩
    · refine mf_iconst (v := 1) dX12_isSign_16 rfl ?_
      refine mf_goto (tgt := 21) dX12_isSign_17 (by decide) ?_
      exact mf_ireturn dX12_isSign_21 rfl rfl ⟨rfl, rfl⟩
set_option maxRecDepth 100000 in
set_option maxHeartbeats 4000000 in
theorem aX12_sign (d : Nat) (q : m_S) (hM : isM q) (a1 : Int32) : AC rI yX12_sign cX12_sign 2 (some .boolean) (d + 3) [.ref 218, .int a1] q (fX12_sign a1) := by
  refine ac_of (by decide +kernel) (Nat.le_of_ble_eq_true rfl) ?_
  unfold fX12_sign
  show MF rI (yX12_sign.cls, cX12_sign, 2, (some .boolean), yX12_sign.name, d + 3, 0, 0) 0 [(0, .ref 218), (1, .int a1)] [] q _
  refine mf_aload_n 0 dX12_sign_0 rfl ?_
  refine mf_iload_n 1 dX12_sign_1 rfl ?_
  refine mf_cVi (rest := []) [.int a1] (aX12_isSign (d + 1) q hM a1) mY_X12_isSign dX12_sign_2 ml_X12_202 (mo_o hM) rfl rfl (Nat.le_of_ble_eq_true rfl) rfl (fun v1 => ?_)
  refine mf_if_ne (tgt := 14) dX12_sign_5 (by decide) ?_ ?_
  · refine mf_aload_n 0 dX12_sign_14 rfl ?_
    refine mf_cVv (rest := []) [] (aX12_next (d + 0) q hM) mY_X12_next dX12_sign_15 ml_X12_208 (mo_o hM) rfl rfl (Nat.le_of_ble_eq_true rfl) rfl (fun _ => ?_)
    refine mf_iconst (v := 1) dX12_sign_18 rfl ?_
    exact mf_ireturn dX12_sign_19 rfl rfl ⟨rfl, rfl⟩
  · refine mf_aload_n 0 dX12_sign_8 rfl ?_
    refine mf_iconst (v := 1) dX12_sign_9 rfl ?_
    refine mf_cVi (rest := []) [.int 1] (aX12_bad (d + 1) q hM 1) mY_X12_bad dX12_sign_10 ml_X12_205 (mo_o hM) rfl rfl (Nat.le_of_ble_eq_true rfl) rfl (fun v2 => ?_)
    exact mf_zreturn dX12_sign_13 rfl ⟨rfl, rfl⟩
set_option maxRecDepth 100000 in
set_option maxHeartbeats 4000000 in
theorem aX12_isName (d : Nat) (q : m_S) (hM : isM q)  : AC rI yX12_isName cX12_isName 3 (some .boolean) (d + 1) [.ref 218] q (fX12_isName ) := by
  refine ac_of (by decide +kernel) (Nat.le_of_ble_eq_true rfl) ?_
  unfold fX12_isName
  show MF rI (yX12_isName.cls, cX12_isName, 3, (some .boolean), yX12_isName.name, d + 1, 0, 0) 0 [(0, .ref 218)] [] q _
  refine mf_aload_n 0 dX12_isName_0 rfl ?_
  refine mf_geti 12 11 dX12_isName_1 fl_X12_179 (by decide) (by decide) rfl (mo_o hM) (fun v1 => ?_)
  refine mf_iconst (v := 1) dX12_isName_4 rfl ?_
  refine mf_jo1 (pj := 13) (lvj := fun w2 => [(0, .ref 218)]) (stj := fun w2 => [.int w2]) (fun w2 => ?_) (fun J13 hJ13 => ?_)
  · show MF rI (yX12_isName.cls, cX12_isName, 3, (some .boolean), yX12_isName.name, d + 1, 0, 0) 13 [(0, .ref 218)] [.int w2] q _
    refine mf_istore_n [(1, .int w2), (0, .ref 218)] dX12_isName_13 (Nat.le_of_ble_eq_true rfl) rfl ?_
    refine mf_iconst (v := 0) dX12_isName_14 rfl ?_
    refine mf_istore_n [(2, .int 0), (1, .int w2), (0, .ref 218)] dX12_isName_15 (Nat.le_of_ble_eq_true rfl) rfl ?_
    refine mf_sub [2, 1, 0] rfl ?_
    refine mf_lz2 (lv := fun x3 x4 => [(0, .ref 218), (1, .int x3), (2, .int x4)]) (fun L16 h16 x3 x4 => ?_) _ _ _
    show MF rI (yX12_isName.cls, cX12_isName, 3, (some .boolean), yX12_isName.name, d + 1, 0, 0) 16 [(0, .ref 218), (1, .int x3), (2, .int x4)] [] q _
    refine mf_iload_n 2 dX12_isName_16 rfl ?_
    refine mf_bipush (v := 32) dX12_isName_17 (by decide) ?_
    refine mf_icmp_ge (tgt := 52) dX12_isName_19 (by decide) ?_ ?_
    · refine mf_iload_n 1 dX12_isName_52 rfl ?_
      exact mf_zreturn dX12_isName_53 rfl ⟨rfl, rfl⟩
    · refine mf_iload_n 1 dX12_isName_22 rfl ?_
      refine mf_if_eq (tgt := 44) dX12_isName_23 (by decide) ?_ ?_
      · refine mf_iconst (v := 0) dX12_isName_44 rfl ?_
        refine mf_istore_n [(1, .int 0), (0, .ref 218), (2, .int x4)] dX12_isName_45 (Nat.le_of_ble_eq_true rfl) rfl ?_
        refine mf_iinc 2 (x4 + 1) [(2, .int (x4 + 1)), (1, .int 0), (0, .ref 218)] dX12_isName_46 rfl rfl (Nat.le_of_ble_eq_true rfl) rfl ?_
        refine mf_goto (tgt := 16) dX12_isName_49 (by decide) ?_
        refine mf_sub [2, 1, 0] rfl ?_
        exact h16 _ _
      · refine mf_aload_n 0 dX12_isName_26 rfl ?_
        refine mf_getl 12 17 dX12_isName_27 fl_X12_192 (by decide) (by decide) rfl (mo_o hM) (fun v5 => ?_)
        refine mf_aload_n 0 dX12_isName_30 rfl ?_
        refine mf_getr 12 10 dX12_isName_31 fl_X12_47 (by decide) (by decide) rfl (mo_o hM) (mo_r10 hM) (by decide) ?_
        refine mf_iload_n 2 dX12_isName_34 rfl ?_
        refine mf_lald dX12_isName_35 (mo_a10 hM) (fun v6 => ?_)
        refine mf_lcmp dX12_isName_36 ?_
        refine mf_if_eq (tgt := 44) dX12_isName_37 (by decide) ?_ ?_
        · refine mf_iconst (v := 0) dX12_isName_44 rfl ?_
          refine mf_istore_n [(1, .int 0), (0, .ref 218), (2, .int x4)] dX12_isName_45 (Nat.le_of_ble_eq_true rfl) rfl ?_
          refine mf_iinc 2 (x4 + 1) [(2, .int (x4 + 1)), (1, .int 0), (0, .ref 218)] dX12_isName_46 rfl rfl (Nat.le_of_ble_eq_true rfl) rfl ?_
          refine mf_goto (tgt := 16) dX12_isName_49 (by decide) ?_
          refine mf_sub [2, 1, 0] rfl ?_
          exact h16 _ _
        · refine mf_iconst (v := 1) dX12_isName_40 rfl ?_
          refine mf_goto (tgt := 45) dX12_isName_41 (by decide) ?_
          refine mf_istore_n [(1, .int 1), (0, .ref 218), (2, .int x4)] dX12_isName_45 (Nat.le_of_ble_eq_true rfl) rfl ?_
          refine mf_iinc 2 (x4 + 1) [(2, .int (x4 + 1)), (1, .int 1), (0, .ref 218)] dX12_isName_46 rfl rfl (Nat.le_of_ble_eq_true rfl) rfl ?_
          refine mf_goto (tgt := 16) dX12_isName_49 (by decide) ?_
          refine mf_sub [2, 1, 0] rfl ?_
          exact h16 _ _
  refine mf_icmp_ne (tgt := 12) dX12_isName_5 (by decide) ?_ ?_
  · refine mf_iconst (v := 0) dX12_isName_12 rfl ?_
    exact hJ13 _
  · refine mf_iconst (v := 1) dX12_isName_8 rfl ?_
    refine mf_goto (tgt := 13) dX12_isName_9 (by decide) ?_
    exact hJ13 _
set_option maxRecDepth 100000 in
set_option maxHeartbeats 4000000 in
theorem aX12_takes (d : Nat) (q : m_S) (hM : isM q) (a1 : Int32) (a2 : Int32) : AC rI yX12_takes cX12_takes 3 (some .boolean) (d + 3) [.ref 218, .int a1, .int a2] q (fX12_takes a1 a2) := by
  refine ac_of (by decide +kernel) (Nat.le_of_ble_eq_true rfl) ?_
  unfold fX12_takes
  show MF rI (yX12_takes.cls, cX12_takes, 3, (some .boolean), yX12_takes.name, d + 3, 0, 0) 0 [(0, .ref 218), (1, .int a1), (2, .int a2)] [] q _
  refine mf_aload_n 0 dX12_takes_0 rfl ?_
  refine mf_geti 12 11 dX12_takes_1 fl_X12_179 (by decide) (by decide) rfl (mo_o hM) (fun v1 => ?_)
  refine mf_iconst (v := 2) dX12_takes_4 rfl ?_
  refine mf_icmp_eq (tgt := 14) dX12_takes_5 (by decide) ?_ ?_
  · refine mf_aload_n 0 dX12_takes_14 rfl ?_
    refine mf_geti 12 14 dX12_takes_15 fl_X12_189 (by decide) (by decide) rfl (mo_o hM) (fun v2 => ?_)
    refine mf_iload_n 1 dX12_takes_18 rfl ?_
    refine mf_iload_n 2 dX12_takes_19 rfl ?_
    refine mf_cSi (rest := []) [.int v2, .int a1, .int a2] (aX12_isIn (d + 1) q v2 a1 a2) mY_X12_isIn dX12_takes_20 ml_X12_211 rfl rfl (Nat.le_of_ble_eq_true rfl) rfl (fun v3 => ?_)
    refine mf_if_ne (tgt := 32) dX12_takes_23 (by decide) ?_ ?_
    · refine mf_aload_n 0 dX12_takes_32 rfl ?_
      refine mf_aload_n 0 dX12_takes_33 rfl ?_
      refine mf_geti 12 14 dX12_takes_34 fl_X12_189 (by decide) (by decide) rfl (mo_o hM) (fun v4 => ?_)
      refine mf_puti 12 18 dX12_takes_37 fl_X12_215 (by decide) (by decide) rfl rfl (mo_o hM) ?_
      refine mf_aload_n 0 dX12_takes_40 rfl ?_
      refine mf_cVv (rest := []) [] (aX12_next (d + 0) q hM) mY_X12_next dX12_takes_41 ml_X12_208 (mo_o hM) rfl rfl (Nat.le_of_ble_eq_true rfl) rfl (fun _ => ?_)
      refine mf_iconst (v := 1) dX12_takes_44 rfl ?_
      exact mf_ireturn dX12_takes_45 rfl rfl ⟨rfl, rfl⟩
    · refine mf_aload_n 0 dX12_takes_26 rfl ?_
      refine mf_iconst (v := 2) dX12_takes_27 rfl ?_
      refine mf_cVi (rest := []) [.int 2] (aX12_bad (d + 1) q hM 2) mY_X12_bad dX12_takes_28 ml_X12_205 (mo_o hM) rfl rfl (Nat.le_of_ble_eq_true rfl) rfl (fun v5 => ?_)
      exact mf_zreturn dX12_takes_31 rfl ⟨rfl, rfl⟩
  · refine mf_aload_n 0 dX12_takes_8 rfl ?_
    refine mf_iconst (v := 1) dX12_takes_9 rfl ?_
    refine mf_cVi (rest := []) [.int 1] (aX12_bad (d + 1) q hM 1) mY_X12_bad dX12_takes_10 ml_X12_205 (mo_o hM) rfl rfl (Nat.le_of_ble_eq_true rfl) rfl (fun v6 => ?_)
    exact mf_zreturn dX12_takes_13 rfl ⟨rfl, rfl⟩
set_option maxRecDepth 100000 in
set_option maxHeartbeats 4000000 in
theorem aX12_puts (d : Nat) (q : m_S) (hM : isM q) (a1 : Int32) (a2 : Int32) (a3 : Int32) : AC rI yX12_puts cX12_puts 4 (some .boolean) (d + 4) [.ref 218, .int a1, .int a2, .int a3] q (fX12_puts a1 a2 a3) := by
  refine ac_of (by decide +kernel) (Nat.le_of_ble_eq_true rfl) ?_
  unfold fX12_puts
  show MF rI (yX12_puts.cls, cX12_puts, 4, (some .boolean), yX12_puts.name, d + 4, 0, 0) 0 [(0, .ref 218), (1, .int a1), (2, .int a2), (3, .int a3)] [] q _
  refine mf_aload_n 0 dX12_puts_0 rfl ?_
  refine mf_iload_n 2 dX12_puts_1 rfl ?_
  refine mf_iload_n 3 dX12_puts_2 rfl ?_
  refine mf_cVi (rest := []) [.int a2, .int a3] (aX12_takes (d + 0) q hM a2 a3) mY_X12_takes dX12_puts_3 ml_X12_218 (mo_o hM) rfl rfl (Nat.le_of_ble_eq_true rfl) rfl (fun v1 => ?_)
  refine mf_if_ne (tgt := 11) dX12_puts_6 (by decide) ?_ ?_
  · refine mf_aload_n 0 dX12_puts_11 rfl ?_
    refine mf_getr 12 7 dX12_puts_12 fl_X12_37 (by decide) (by decide) rfl (mo_o hM) (mo_r7 hM) (by decide) ?_
    refine mf_iload_n 1 dX12_puts_15 rfl ?_
    refine mf_aload_n 0 dX12_puts_16 rfl ?_
    refine mf_geti 12 18 dX12_puts_17 fl_X12_215 (by decide) (by decide) rfl (mo_o hM) (fun v2 => ?_)
    refine mf_iast dX12_puts_20 (mo_a7 hM) ?_
    refine mf_iconst (v := 1) dX12_puts_21 rfl ?_
    exact mf_ireturn dX12_puts_22 rfl rfl ⟨rfl, rfl⟩
  · refine mf_iconst (v := 0) dX12_puts_9 rfl ?_
    exact mf_ireturn dX12_puts_10 rfl rfl ⟨rfl, rfl⟩
set_option maxRecDepth 100000 in
set_option maxHeartbeats 4000000 in
theorem aX12_seek (d : Nat) (q : m_S) (hM : isM q) (a1 : Int32) (a2 : Int32) : AC rI yX12_seek cX12_seek 4 (some .int) (d + 1) [.ref 218, .int a1, .int a2] q (fX12_seek a1 a2) := by
  refine ac_of (by decide +kernel) (Nat.le_of_ble_eq_true rfl) ?_
  unfold fX12_seek
  show MF rI (yX12_seek.cls, cX12_seek, 4, (some .int), yX12_seek.name, d + 1, 0, 0) 0 [(0, .ref 218), (1, .int a1), (2, .int a2)] [] q _
  refine mf_iconst (v := 0) dX12_seek_0 rfl ?_
  refine mf_istore_n [(3, .int 0), (0, .ref 218), (1, .int a1), (2, .int a2)] dX12_seek_1 (Nat.le_of_ble_eq_true rfl) rfl ?_
  refine mf_sub [1, 2, 3, 0] rfl ?_
  refine mf_lz1 (lv := fun x1 => [(0, .ref 218), (1, .int a1), (2, .int a2), (3, .int x1)]) (fun L2 h2 x1 => ?_) _ _
  show MF rI (yX12_seek.cls, cX12_seek, 4, (some .int), yX12_seek.name, d + 1, 0, 0) 2 [(0, .ref 218), (1, .int a1), (2, .int a2), (3, .int x1)] [] q _
  refine mf_iload_n 3 dX12_seek_2 rfl ?_
  refine mf_iload_n 2 dX12_seek_3 rfl ?_
  refine mf_icmp_ge (tgt := 31) dX12_seek_4 (by decide) ?_ ?_
  · refine mf_iconst (v := -1) dX12_seek_31 rfl ?_
    exact mf_ireturn dX12_seek_32 rfl rfl ⟨rfl, rfl⟩
  · refine mf_aload_n 0 dX12_seek_7 rfl ?_
    refine mf_getr 12 9 dX12_seek_8 fl_X12_43 (by decide) (by decide) rfl (mo_o hM) (mo_r9 hM) (by decide) ?_
    refine mf_iload_n 1 dX12_seek_11 rfl ?_
    refine mf_iload_n 3 dX12_seek_12 rfl ?_
    refine mf_iadd dX12_seek_13 ?_
    refine mf_lald dX12_seek_14 (mo_a9 hM) (fun v2 => ?_)
    refine mf_aload_n 0 dX12_seek_15 rfl ?_
    refine mf_getl 12 17 dX12_seek_16 fl_X12_192 (by decide) (by decide) rfl (mo_o hM) (fun v3 => ?_)
    refine mf_lcmp dX12_seek_19 ?_
    refine mf_if_ne (tgt := 25) dX12_seek_20 (by decide) ?_ ?_
    · refine mf_iinc 3 (x1 + 1) [(3, .int (x1 + 1)), (0, .ref 218), (1, .int a1), (2, .int a2)] dX12_seek_25 rfl rfl (Nat.le_of_ble_eq_true rfl) rfl ?_
      refine mf_goto (tgt := 2) dX12_seek_28 (by decide) ?_
      refine mf_sub [1, 2, 3, 0] rfl ?_
      exact h2 _
    · refine mf_iload_n 3 dX12_seek_23 rfl ?_
      exact mf_ireturn dX12_seek_24 rfl rfl ⟨rfl, rfl⟩
set_option maxRecDepth 100000 in
set_option maxHeartbeats 4000000 in
theorem aX12_fresh (d : Nat) (q : m_S) (hM : isM q) (a1 : Int32) : AC rI yX12_fresh cX12_fresh 2 (some .boolean) (d + 3) [.ref 218, .int a1] q (fX12_fresh a1) := by
  refine ac_of (by decide +kernel) (Nat.le_of_ble_eq_true rfl) ?_
  unfold fX12_fresh
  show MF rI (yX12_fresh.cls, cX12_fresh, 2, (some .boolean), yX12_fresh.name, d + 3, 0, 0) 0 [(0, .ref 218), (1, .int a1)] [] q _
  refine mf_aload_n 0 dX12_fresh_0 rfl ?_
  refine mf_cVi (rest := []) [] (aX12_isName (d + 1) q hM) mY_X12_isName dX12_fresh_1 ml_X12_222 (mo_o hM) rfl rfl (Nat.le_of_ble_eq_true rfl) rfl (fun v1 => ?_)
  refine mf_if_ne (tgt := 13) dX12_fresh_4 (by decide) ?_ ?_
  · refine mf_aload_n 0 dX12_fresh_13 rfl ?_
    refine mf_bipush (v := 41) dX12_fresh_14 (by decide) ?_
    refine mf_aload_n 0 dX12_fresh_16 rfl ?_
    refine mf_getr 12 7 dX12_fresh_17 fl_X12_37 (by decide) (by decide) rfl (mo_o hM) (mo_r7 hM) (by decide) ?_
    refine mf_iconst (v := 0) dX12_fresh_20 rfl ?_
    refine mf_iald dX12_fresh_21 (mo_a7 hM) (fun v2 => ?_)
    refine mf_cVi (rest := []) [.int 41, .int v2] (aX12_seek (d + 1) q hM 41 v2) mY_X12_seek dX12_fresh_22 ml_X12_226 (mo_o hM) rfl rfl (Nat.le_of_ble_eq_true rfl) rfl (fun v3 => ?_)
    refine mf_if_ge (tgt := 89) dX12_fresh_25 (by decide) ?_ ?_
    · refine mf_aload_n 0 dX12_fresh_89 rfl ?_
      refine mf_iconst (v := 3) dX12_fresh_90 rfl ?_
      refine mf_cVi (rest := []) [.int 3] (aX12_bad (d + 1) q hM 3) mY_X12_bad dX12_fresh_91 ml_X12_205 (mo_o hM) rfl rfl (Nat.le_of_ble_eq_true rfl) rfl (fun v4 => ?_)
      exact mf_zreturn dX12_fresh_94 rfl ⟨rfl, rfl⟩
    · refine mf_aload_n 0 dX12_fresh_28 rfl ?_
      refine mf_bipush (v := 53) dX12_fresh_29 (by decide) ?_
      refine mf_aload_n 0 dX12_fresh_31 rfl ?_
      refine mf_getr 12 7 dX12_fresh_32 fl_X12_37 (by decide) (by decide) rfl (mo_o hM) (mo_r7 hM) (by decide) ?_
      refine mf_iconst (v := 1) dX12_fresh_35 rfl ?_
      refine mf_iald dX12_fresh_36 (mo_a7 hM) (fun v5 => ?_)
      refine mf_cVi (rest := []) [.int 53, .int v5] (aX12_seek (d + 1) q hM 53 v5) mY_X12_seek dX12_fresh_37 ml_X12_226 (mo_o hM) rfl rfl (Nat.le_of_ble_eq_true rfl) rfl (fun v6 => ?_)
      refine mf_if_ge (tgt := 89) dX12_fresh_40 (by decide) ?_ ?_
      · refine mf_aload_n 0 dX12_fresh_89 rfl ?_
        refine mf_iconst (v := 3) dX12_fresh_90 rfl ?_
        refine mf_cVi (rest := []) [.int 3] (aX12_bad (d + 1) q hM 3) mY_X12_bad dX12_fresh_91 ml_X12_205 (mo_o hM) rfl rfl (Nat.le_of_ble_eq_true rfl) rfl (fun v7 => ?_)
        exact mf_zreturn dX12_fresh_94 rfl ⟨rfl, rfl⟩
      · refine mf_aload_n 0 dX12_fresh_43 rfl ?_
        refine mf_bipush (v := 59) dX12_fresh_44 (by decide) ?_
        refine mf_aload_n 0 dX12_fresh_46 rfl ?_
        refine mf_getr 12 7 dX12_fresh_47 fl_X12_37 (by decide) (by decide) rfl (mo_o hM) (mo_r7 hM) (by decide) ?_
        refine mf_iconst (v := 3) dX12_fresh_50 rfl ?_
        refine mf_iald dX12_fresh_51 (mo_a7 hM) (fun v8 => ?_)
        refine mf_cVi (rest := []) [.int 59, .int v8] (aX12_seek (d + 1) q hM 59 v8) mY_X12_seek dX12_fresh_52 ml_X12_226 (mo_o hM) rfl rfl (Nat.le_of_ble_eq_true rfl) rfl (fun v9 => ?_)
        refine mf_if_ge (tgt := 89) dX12_fresh_55 (by decide) ?_ ?_
        · refine mf_aload_n 0 dX12_fresh_89 rfl ?_
          refine mf_iconst (v := 3) dX12_fresh_90 rfl ?_
          refine mf_cVi (rest := []) [.int 3] (aX12_bad (d + 1) q hM 3) mY_X12_bad dX12_fresh_91 ml_X12_205 (mo_o hM) rfl rfl (Nat.le_of_ble_eq_true rfl) rfl (fun v10 => ?_)
          exact mf_zreturn dX12_fresh_94 rfl ⟨rfl, rfl⟩
        · refine mf_aload_n 0 dX12_fresh_58 rfl ?_
          refine mf_bipush (v := 67) dX12_fresh_59 (by decide) ?_
          refine mf_aload_n 0 dX12_fresh_61 rfl ?_
          refine mf_getr 12 7 dX12_fresh_62 fl_X12_37 (by decide) (by decide) rfl (mo_o hM) (mo_r7 hM) (by decide) ?_
          refine mf_iconst (v := 4) dX12_fresh_65 rfl ?_
          refine mf_iald dX12_fresh_66 (mo_a7 hM) (fun v11 => ?_)
          refine mf_cVi (rest := []) [.int 67, .int v11] (aX12_seek (d + 1) q hM 67 v11) mY_X12_seek dX12_fresh_67 ml_X12_226 (mo_o hM) rfl rfl (Nat.le_of_ble_eq_true rfl) rfl (fun v12 => ?_)
          refine mf_if_ge (tgt := 89) dX12_fresh_70 (by decide) ?_ ?_
          · refine mf_aload_n 0 dX12_fresh_89 rfl ?_
            refine mf_iconst (v := 3) dX12_fresh_90 rfl ?_
            refine mf_cVi (rest := []) [.int 3] (aX12_bad (d + 1) q hM 3) mY_X12_bad dX12_fresh_91 ml_X12_205 (mo_o hM) rfl rfl (Nat.le_of_ble_eq_true rfl) rfl (fun v13 => ?_)
            exact mf_zreturn dX12_fresh_94 rfl ⟨rfl, rfl⟩
          · refine mf_aload_n 0 dX12_fresh_73 rfl ?_
            refine mf_bipush (v := 77) dX12_fresh_74 (by decide) ?_
            refine mf_aload_n 0 dX12_fresh_76 rfl ?_
            refine mf_getr 12 7 dX12_fresh_77 fl_X12_37 (by decide) (by decide) rfl (mo_o hM) (mo_r7 hM) (by decide) ?_
            refine mf_bipush (v := 6) dX12_fresh_80 (by decide) ?_
            refine mf_iald dX12_fresh_82 (mo_a7 hM) (fun v14 => ?_)
            refine mf_cVi (rest := []) [.int 77, .int v14] (aX12_seek (d + 1) q hM 77 v14) mY_X12_seek dX12_fresh_83 ml_X12_226 (mo_o hM) rfl rfl (Nat.le_of_ble_eq_true rfl) rfl (fun v15 => ?_)
            refine mf_if_lt (tgt := 95) dX12_fresh_86 (by decide) ?_ ?_
            · refine mf_aload_n 0 dX12_fresh_95 rfl ?_
              refine mf_getr 12 9 dX12_fresh_96 fl_X12_43 (by decide) (by decide) rfl (mo_o hM) (mo_r9 hM) (by decide) ?_
              refine mf_iload_n 1 dX12_fresh_99 rfl ?_
              refine mf_aload_n 0 dX12_fresh_100 rfl ?_
              refine mf_getl 12 17 dX12_fresh_101 fl_X12_192 (by decide) (by decide) rfl (mo_o hM) (fun v16 => ?_)
              refine mf_last dX12_fresh_104 (mo_a9 hM) ?_
              refine mf_aload_n 0 dX12_fresh_105 rfl ?_
              refine mf_cVv (rest := []) [] (aX12_next (d + 0) q hM) mY_X12_next dX12_fresh_106 ml_X12_208 (mo_o hM) rfl rfl (Nat.le_of_ble_eq_true rfl) rfl (fun _ => ?_)
              refine mf_iconst (v := 1) dX12_fresh_109 rfl ?_
              exact mf_ireturn dX12_fresh_110 rfl rfl ⟨rfl, rfl⟩
            · refine mf_aload_n 0 dX12_fresh_89 rfl ?_
              refine mf_iconst (v := 3) dX12_fresh_90 rfl ?_
              refine mf_cVi (rest := []) [.int 3] (aX12_bad (d + 1) q hM 3) mY_X12_bad dX12_fresh_91 ml_X12_205 (mo_o hM) rfl rfl (Nat.le_of_ble_eq_true rfl) rfl (fun v17 => ?_)
              exact mf_zreturn dX12_fresh_94 rfl ⟨rfl, rfl⟩
  · refine mf_aload_n 0 dX12_fresh_7 rfl ?_
    refine mf_iconst (v := 1) dX12_fresh_8 rfl ?_
    refine mf_cVi (rest := []) [.int 1] (aX12_bad (d + 1) q hM 1) mY_X12_bad dX12_fresh_9 ml_X12_205 (mo_o hM) rfl rfl (Nat.le_of_ble_eq_true rfl) rfl (fun v18 => ?_)
    exact mf_zreturn dX12_fresh_12 rfl ⟨rfl, rfl⟩
set_option maxRecDepth 100000 in
set_option maxHeartbeats 4000000 in
theorem aX12_looksAt (d : Nat) (q : m_S) (hM : isM q) (a1 : Int32) (a2 : Int32) : AC rI yX12_looksAt cX12_looksAt 3 (some .boolean) (d + 2) [.ref 218, .int a1, .int a2] q (fX12_looksAt a1 a2) := by
  refine ac_of (by decide +kernel) (Nat.le_of_ble_eq_true rfl) ?_
  unfold fX12_looksAt
  show MF rI (yX12_looksAt.cls, cX12_looksAt, 3, (some .boolean), yX12_looksAt.name, d + 2, 0, 0) 0 [(0, .ref 218), (1, .int a1), (2, .int a2)] [] q _
  refine mf_aload_n 0 dX12_looksAt_0 rfl ?_
  refine mf_cVi (rest := []) [] (aX12_isName (d + 0) q hM) mY_X12_isName dX12_looksAt_1 ml_X12_222 (mo_o hM) rfl rfl (Nat.le_of_ble_eq_true rfl) rfl (fun v1 => ?_)
  refine mf_if_ne (tgt := 13) dX12_looksAt_4 (by decide) ?_ ?_
  · refine mf_aload_n 0 dX12_looksAt_13 rfl ?_
    refine mf_aload_n 0 dX12_looksAt_14 rfl ?_
    refine mf_iload_n 1 dX12_looksAt_15 rfl ?_
    refine mf_iload_n 2 dX12_looksAt_16 rfl ?_
    refine mf_cVi (rest := [.ref 218]) [.int a1, .int a2] (aX12_seek (d + 0) q hM a1 a2) mY_X12_seek dX12_looksAt_17 ml_X12_226 (mo_o hM) rfl rfl (Nat.le_of_ble_eq_true rfl) rfl (fun v2 => ?_)
    refine mf_puti 12 18 dX12_looksAt_20 fl_X12_215 (by decide) (by decide) rfl rfl (mo_o hM) ?_
    refine mf_aload_n 0 dX12_looksAt_23 rfl ?_
    refine mf_geti 12 18 dX12_looksAt_24 fl_X12_215 (by decide) (by decide) rfl (mo_o hM) (fun v3 => ?_)
    refine mf_if_ge (tgt := 38) dX12_looksAt_27 (by decide) ?_ ?_
    · refine mf_iconst (v := 1) dX12_looksAt_38 rfl ?_
      refine mf_goto (tgt := 43) dX12_looksAt_39 (by decide) ?_
      exact mf_ireturn dX12_looksAt_43 rfl rfl ⟨rfl, rfl⟩
    · refine mf_aload_n 0 dX12_looksAt_30 rfl ?_
      refine mf_iconst (v := 3) dX12_looksAt_31 rfl ?_
      refine mf_cVi (rest := []) [.int 3] (aX12_bad (d + 0) q hM 3) mY_X12_bad dX12_looksAt_32 ml_X12_205 (mo_o hM) rfl rfl (Nat.le_of_ble_eq_true rfl) rfl (fun v4 => ?_)
      refine mf_if_eq (tgt := 42) dX12_looksAt_35 (by decide) ?_ ?_
      · refine mf_iconst (v := 0) dX12_looksAt_42 rfl ?_
        exact mf_ireturn dX12_looksAt_43 rfl rfl ⟨rfl, rfl⟩
      · refine mf_iconst (v := 1) dX12_looksAt_38 rfl ?_
        refine mf_goto (tgt := 43) dX12_looksAt_39 (by decide) ?_
        exact mf_ireturn dX12_looksAt_43 rfl rfl ⟨rfl, rfl⟩
  · refine mf_aload_n 0 dX12_looksAt_7 rfl ?_
    refine mf_iconst (v := 1) dX12_looksAt_8 rfl ?_
    refine mf_cVi (rest := []) [.int 1] (aX12_bad (d + 0) q hM 1) mY_X12_bad dX12_looksAt_9 ml_X12_205 (mo_o hM) rfl rfl (Nat.le_of_ble_eq_true rfl) rfl (fun v5 => ?_)
    exact mf_zreturn dX12_looksAt_12 rfl ⟨rfl, rfl⟩
set_option maxRecDepth 100000 in
set_option maxHeartbeats 4000000 in
theorem aX12_takesName (d : Nat) (q : m_S) (hM : isM q) (a1 : Int32) (a2 : Int32) : AC rI yX12_takesName cX12_takesName 3 (some .boolean) (d + 3) [.ref 218, .int a1, .int a2] q (fX12_takesName a1 a2) := by
  refine ac_of (by decide +kernel) (Nat.le_of_ble_eq_true rfl) ?_
  unfold fX12_takesName
  show MF rI (yX12_takesName.cls, cX12_takesName, 3, (some .boolean), yX12_takesName.name, d + 3, 0, 0) 0 [(0, .ref 218), (1, .int a1), (2, .int a2)] [] q _
  refine mf_aload_n 0 dX12_takesName_0 rfl ?_
  refine mf_iload_n 1 dX12_takesName_1 rfl ?_
  refine mf_iload_n 2 dX12_takesName_2 rfl ?_
  refine mf_cVi (rest := []) [.int a1, .int a2] (aX12_looksAt (d + 0) q hM a1 a2) mY_X12_looksAt dX12_takesName_3 ml_X12_230 (mo_o hM) rfl rfl (Nat.le_of_ble_eq_true rfl) rfl (fun v1 => ?_)
  refine mf_if_ne (tgt := 11) dX12_takesName_6 (by decide) ?_ ?_
  · refine mf_aload_n 0 dX12_takesName_11 rfl ?_
    refine mf_cVv (rest := []) [] (aX12_next (d + 0) q hM) mY_X12_next dX12_takesName_12 ml_X12_208 (mo_o hM) rfl rfl (Nat.le_of_ble_eq_true rfl) rfl (fun _ => ?_)
    refine mf_iconst (v := 1) dX12_takesName_15 rfl ?_
    exact mf_ireturn dX12_takesName_16 rfl rfl ⟨rfl, rfl⟩
  · refine mf_iconst (v := 0) dX12_takesName_9 rfl ?_
    exact mf_ireturn dX12_takesName_10 rfl rfl ⟨rfl, rfl⟩
set_option maxRecDepth 100000 in
set_option maxHeartbeats 4000000 in
theorem aX12_readSection (d : Nat) (q : m_S) (hM : isM q)  : AC rI yX12_readSection cX12_readSection 2 (some .boolean) (d + 5) [.ref 218] q (fX12_readSection ) := by
  refine ac_of (by decide +kernel) (Nat.le_of_ble_eq_true rfl) ?_
  unfold fX12_readSection
  show MF rI (yX12_readSection.cls, cX12_readSection, 2, (some .boolean), yX12_readSection.name, d + 5, 0, 0) 0 [(0, .ref 218)] [] q _
  refine mf_aload_n 0 dX12_readSection_0 rfl ?_
  refine mf_getr 12 7 dX12_readSection_1 fl_X12_37 (by decide) (by decide) rfl (mo_o hM) (mo_r7 hM) (by decide) ?_
  refine mf_iconst (v := 0) dX12_readSection_4 rfl ?_
  refine mf_iald dX12_readSection_5 (mo_a7 hM) (fun v1 => ?_)
  refine mf_istore_n [(1, .int v1), (0, .ref 218)] dX12_readSection_6 (Nat.le_of_ble_eq_true rfl) rfl ?_
  refine mf_iload_n 0 dX12_readSection_7 rfl ?_
  refine mf_bipush (v := 12) dX12_readSection_8 (by decide) ?_
  refine mf_icmp_ne (tgt := 19) dX12_readSection_10 (by decide) ?_ ?_
  · refine mf_aload_n 1 dX12_readSection_19 rfl ?_
    refine mf_cVv (rest := []) [] (aX12_next (d + 2) q hM) mY_X12_next dX12_readSection_20 ml_X12_208 (mo_o hM) rfl rfl (Nat.le_of_ble_eq_true rfl) rfl (fun _ => ?_)
    refine mf_aload_n 1 dX12_readSection_23 rfl ?_
    refine mf_bipush (v := 41) dX12_readSection_24 (by decide) ?_
    refine mf_iload_n 0 dX12_readSection_26 rfl ?_
    refine mf_iadd dX12_readSection_27 ?_
    refine mf_cVi (rest := []) [.int (41 + v1)] (aX12_fresh (d + 1) q hM (41 + v1)) mY_X12_fresh dX12_readSection_28 ml_X12_268 (mo_o hM) rfl rfl (Nat.le_of_ble_eq_true rfl) rfl (fun v2 => ?_)
    refine mf_if_eq (tgt := 48) dX12_readSection_31 (by decide) ?_ ?_
    · refine mf_iconst (v := 0) dX12_readSection_48 rfl ?_
      exact mf_ireturn dX12_readSection_49 rfl rfl ⟨rfl, rfl⟩
    · refine mf_aload_n 1 dX12_readSection_34 rfl ?_
      refine mf_bipush (v := 8) dX12_readSection_35 (by decide) ?_
      refine mf_iload_n 0 dX12_readSection_37 rfl ?_
      refine mf_iadd dX12_readSection_38 ?_
      refine mf_iconst (v := 1) dX12_readSection_39 rfl ?_
      refine mf_bipush (v := 30) dX12_readSection_40 (by decide) ?_
      refine mf_cVi (rest := []) [.int (8 + v1), .int 1, .int 30] (aX12_puts (d + 0) q hM (8 + v1) 1 30) mY_X12_puts dX12_readSection_42 ml_X12_265 (mo_o hM) rfl rfl (Nat.le_of_ble_eq_true rfl) rfl (fun v3 => ?_)
      refine mf_if_ne (tgt := 50) dX12_readSection_45 (by decide) ?_ ?_
      · refine mf_aload_n 1 dX12_readSection_50 rfl ?_
        refine mf_getr 12 7 dX12_readSection_51 fl_X12_37 (by decide) (by decide) rfl (mo_o hM) (mo_r7 hM) (by decide) ?_
        refine mf_iconst (v := 0) dX12_readSection_54 rfl ?_
        refine mf_dup2 dX12_readSection_55 rfl rfl ?_
        refine mf_iald dX12_readSection_56 (mo_a7 hM) (fun v4 => ?_)
        refine mf_iconst (v := 1) dX12_readSection_57 rfl ?_
        refine mf_iadd dX12_readSection_58 ?_
        refine mf_iast dX12_readSection_59 (mo_a7 hM) ?_
        refine mf_iconst (v := 1) dX12_readSection_60 rfl ?_
        exact mf_ireturn dX12_readSection_61 rfl rfl ⟨rfl, rfl⟩
      · refine mf_iconst (v := 0) dX12_readSection_48 rfl ?_
        exact mf_ireturn dX12_readSection_49 rfl rfl ⟨rfl, rfl⟩
  · refine mf_aload_n 1 dX12_readSection_13 rfl ?_
    refine mf_iconst (v := 4) dX12_readSection_14 rfl ?_
    refine mf_cVi (rest := []) [.int 4] (aX12_bad (d + 3) q hM 4) mY_X12_bad dX12_readSection_15 ml_X12_205 (mo_o hM) rfl rfl (Nat.le_of_ble_eq_true rfl) rfl (fun v5 => ?_)
    exact mf_zreturn dX12_readSection_18 rfl ⟨rfl, rfl⟩
