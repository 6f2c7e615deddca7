set_option maxRecDepth 100000 in
set_option maxHeartbeats 4000000 in
theorem aX11_book (d : Nat) (q : m_S) (hq : isW q) (a1 : Int32) : AC rI yX11_book cX11_book 4 (some .int) (d + 8) [.ref 0, .int a1] q (fX11_book a1) := by
  refine ac_of (by decide +kernel) (Nat.le_of_ble_eq_true rfl) ?_
  unfold fX11_book
  show MF rI (yX11_book.cls, cX11_book, 4, (some .int), yX11_book.name, d + 8, 0, 0) 0 [(0, .ref 0), (1, .int a1)] [] q _
  refine mf_iload_n 1 dX11_book_0 rfl ?_
  refine mf_jo0 (pj := 13) (lvj := [(0, .ref 0), (1, .int a1)]) (stj := []) ?_ (fun J13 hJ13 => ?_)
  · show MF rI (yX11_book.cls, cX11_book, 4, (some .int), yX11_book.name, d + 8, 0, 0) 13 [(0, .ref 0), (1, .int a1)] [] q _
    refine mf_aload_n 0 dX11_book_13 rfl ?_
    refine mf_getr 11 6 dX11_book_14 fl_X11_52 (by decide) (by decide) rfl (lf_o (w_lf hq)) (lf_r6 (w_lf hq)) (by decide) ?_
    refine mf_aload_n 0 dX11_book_17 rfl ?_
    refine mf_getr 11 0 dX11_book_18 fl_X11_10 (by decide) (by decide) rfl (lf_o (w_lf hq)) (lf_r0 (w_lf hq)) (by decide) ?_
    refine mf_aload_n 0 dX11_book_21 rfl ?_
    refine mf_getr 11 1 dX11_book_22 fl_X11_19 (by decide) (by decide) rfl (lf_o (w_lf hq)) (lf_r1 (w_lf hq)) (by decide) ?_
    refine mf_cVi (rest := []) [.ref 1, .ref 4] (aX0_readLines (d + 1) q hq) mY_X0_readLines dX11_book_25 ml_X11_345 (bo_o (w_bo hq)) rfl rfl (Nat.le_of_ble_eq_true rfl) rfl (fun v1 => ?_)
    refine mf_istore_n [(2, .int v1), (0, .ref 0), (1, .int a1)] dX11_book_28 (Nat.le_of_ble_eq_true rfl) rfl ?_
    refine mf_aload_n 1 dX11_book_29 rfl ?_
    refine mf_aload_n 1 dX11_book_30 rfl ?_
    refine mf_getr 11 0 dX11_book_31 fl_X11_10 (by decide) (by decide) rfl (lf_o (w_lf hq)) (lf_r0 (w_lf hq)) (by decide) ?_
    refine mf_geti 10 9 dX11_book_34 fl_X11_112 (by decide) (by decide) rfl (tx_o (w_tx hq)) (fun v2 => ?_)
    refine mf_puti 11 13 dX11_book_37 fl_X11_93 (by decide) (by decide) rfl rfl (lf_o (w_lf hq)) ?_
    refine mf_aload_n 1 dX11_book_40 rfl ?_
    refine mf_getr 11 0 dX11_book_41 fl_X11_10 (by decide) (by decide) rfl (lf_o (w_lf hq)) (lf_r0 (w_lf hq)) (by decide) ?_
    refine mf_iconst (v := 0) dX11_book_44 rfl ?_
    refine mf_puti 10 1 dX11_book_45 fl_X11_101 (by decide) (by decide) rfl rfl (tx_o (w_tx hq)) ?_
    refine mf_iload_n 0 dX11_book_48 rfl ?_
    refine mf_if_ne (tgt := 63) dX11_book_49 (by decide) ?_ ?_
    · refine mf_aload_n 1 dX11_book_63 rfl ?_
      refine mf_getr 11 4 dX11_book_64 fl_X11_39 (by decide) (by decide) rfl (lf_o (w_lf hq)) (lf_r4 (w_lf hq)) (by decide) ?_
      refine mf_aload_n 1 dX11_book_67 rfl ?_
      refine mf_getr 11 3 dX11_book_68 fl_X11_35 (by decide) (by decide) rfl (lf_o (w_lf hq)) (lf_r3 (w_lf hq)) (by decide) ?_
      refine mf_cVv (rest := []) [.ref 47] (aX8_copyFrom (d + 5) q hq 54 47 st54 st47) mY_X8_copyFrom dX11_book_71 ml_X11_306 (sa_o (w_st hq st54)) rfl rfl (Nat.le_of_ble_eq_true rfl) rfl (fun _ => ?_)
      refine mf_aload_n 1 dX11_book_74 rfl ?_
      refine mf_getr 11 6 dX11_book_75 fl_X11_52 (by decide) (by decide) rfl (lf_o (w_lf hq)) (lf_r6 (w_lf hq)) (by decide) ?_
      refine mf_aload_n 1 dX11_book_78 rfl ?_
      refine mf_getr 11 4 dX11_book_79 fl_X11_39 (by decide) (by decide) rfl (lf_o (w_lf hq)) (lf_r4 (w_lf hq)) (by decide) ?_
      refine mf_cVi (rest := []) [.ref 54] (aX0_judge (d + 0) q hq) mY_X0_judge dX11_book_82 ml_X11_349 (bo_o (w_bo hq)) rfl rfl (Nat.le_of_ble_eq_true rfl) rfl (fun v3 => ?_)
      refine mf_istore_n [(3, .int v3), (2, .int v1), (0, .ref 0), (1, .int a1)] dX11_book_85 (Nat.le_of_ble_eq_true rfl) rfl ?_
      refine mf_iload_n 3 dX11_book_86 rfl ?_
      refine mf_iconst (v := 1) dX11_book_87 rfl ?_
      refine mf_icmp_ne (tgt := 130) dX11_book_88 (by decide) ?_ ?_
      · refine mf_iload_n 0 dX11_book_130 rfl ?_
        exact mf_ireturn dX11_book_131 rfl rfl ⟨rfl, rfl⟩
      · refine mf_aload_n 2 dX11_book_91 rfl ?_
        refine mf_getr 11 6 dX11_book_92 fl_X11_52 (by decide) (by decide) rfl (lf_o (w_lf hq)) (lf_r6 (w_lf hq)) (by decide) ?_
        refine mf_geti 0 6 dX11_book_95 fl_X11_352 (by decide) (by decide) rfl (bo_o (w_bo hq)) (fun v4 => ?_)
        refine mf_if_le (tgt := 130) dX11_book_98 (by decide) ?_ ?_
        · refine mf_iload_n 0 dX11_book_130 rfl ?_
          exact mf_ireturn dX11_book_131 rfl rfl ⟨rfl, rfl⟩
        · refine mf_aload_n 2 dX11_book_101 rfl ?_
          refine mf_getr 11 5 dX11_book_102 fl_X11_45 (by decide) (by decide) rfl (lf_o (w_lf hq)) (lf_r5 (w_lf hq)) (by decide) ?_
          refine mf_aload_n 2 dX11_book_105 rfl ?_
          refine mf_getr 11 3 dX11_book_106 fl_X11_35 (by decide) (by decide) rfl (lf_o (w_lf hq)) (lf_r3 (w_lf hq)) (by decide) ?_
          refine mf_cVv (rest := []) [.ref 47] (aX3_note (d + 4) q hq) mY_X3_note dX11_book_109 ml_X11_257 (hi_o (w_hi hq)) rfl rfl (Nat.le_of_ble_eq_true rfl) rfl (fun _ => ?_)
          refine mf_aload_n 2 dX11_book_112 rfl ?_
          refine mf_getr 11 5 dX11_book_113 fl_X11_45 (by decide) (by decide) rfl (lf_o (w_lf hq)) (lf_r5 (w_lf hq)) (by decide) ?_
          refine mf_cVv (rest := []) [] (aX3_keepNoted (d + 6) q hq) mY_X3_keepNoted dX11_book_116 ml_X11_264 (hi_o (w_hi hq)) rfl rfl (Nat.le_of_ble_eq_true rfl) rfl (fun _ => ?_)
          refine mf_aload_n 2 dX11_book_119 rfl ?_
          refine mf_getr 11 3 dX11_book_120 fl_X11_35 (by decide) (by decide) rfl (lf_o (w_lf hq)) (lf_r3 (w_lf hq)) (by decide) ?_
          refine mf_aload_n 2 dX11_book_123 rfl ?_
          refine mf_getr 11 4 dX11_book_124 fl_X11_39 (by decide) (by decide) rfl (lf_o (w_lf hq)) (lf_r4 (w_lf hq)) (by decide) ?_
          refine mf_cVv (rest := []) [.ref 54] (aX8_copyFrom (d + 5) q hq 47 54 st47 st54) mY_X8_copyFrom dX11_book_127 ml_X11_306 (sa_o (w_st hq st47)) rfl rfl (Nat.le_of_ble_eq_true rfl) rfl (fun _ => ?_)
          refine mf_iload_n 0 dX11_book_130 rfl ?_
          exact mf_ireturn dX11_book_131 rfl rfl ⟨rfl, rfl⟩
    · refine mf_bipush (v := -2) dX11_book_52 (by decide) ?_
      refine mf_aload_n 1 dX11_book_54 rfl ?_
      refine mf_getr 11 0 dX11_book_55 fl_X11_10 (by decide) (by decide) rfl (lf_o (w_lf hq)) (lf_r0 (w_lf hq)) (by decide) ?_
      refine mf_geti 10 10 dX11_book_58 fl_X11_115 (by decide) (by decide) rfl (tx_o (w_tx hq)) (fun v5 => ?_)
      refine mf_isub dX11_book_61 ?_
      exact mf_ireturn dX11_book_62 rfl rfl ⟨rfl, rfl⟩
  refine mf_if_eq (tgt := 13) dX11_book_1 (by decide) ?_ ?_
  · exact hJ13
  · refine mf_iload_n 1 dX11_book_4 rfl ?_
    refine mf_iconst (v := 1) dX11_book_5 rfl ?_
    refine mf_icmp_eq (tgt := 13) dX11_book_6 (by decide) ?_ ?_
    · exact hJ13
    · refine mf_sipush (v := -1000) dX11_book_9 (by decide) ?_
      exact mf_ireturn dX11_book_12 rfl rfl ⟨rfl, rfl⟩
set_option maxRecDepth 100000 in
set_option maxHeartbeats 4000000 in
theorem aX11_told (d : Nat) (q : m_S) (hq : isW q) (a1 : Int32) : AC rI yX11_told cX11_told 2 (some .int) (d + 2) [.ref 0, .int a1] q (fX11_told a1) := by
  refine ac_of (by decide +kernel) (Nat.le_of_ble_eq_true rfl) ?_
  unfold fX11_told
  show MF rI (yX11_told.cls, cX11_told, 2, (some .int), yX11_told.name, d + 2, 0, 0) 0 [(0, .ref 0), (1, .int a1)] [] q _
  refine mf_aload_n 0 dX11_told_0 rfl ?_
  refine mf_getr 11 6 dX11_told_1 fl_X11_52 (by decide) (by decide) rfl (lf_o (w_lf hq)) (lf_r6 (w_lf hq)) (by decide) ?_
  refine mf_iload_n 1 dX11_told_4 rfl ?_
  refine mf_cVi (rest := []) [.int a1] (aX0_tellJudgement (d + 0) q hq a1) mY_X0_tellJudgement dX11_told_5 ml_X11_355 (bo_o (w_bo hq)) rfl rfl (Nat.le_of_ble_eq_true rfl) rfl (fun v1 => ?_)
  exact mf_ireturn dX11_told_8 rfl rfl ⟨rfl, rfl⟩
set_option maxRecDepth 100000 in
set_option maxHeartbeats 4000000 in
theorem aX11_sentence (d : Nat) (q : m_S) (hq : isW q)  : AC rI yX11_sentence cX11_sentence 2 (some .int) (d + 38) [.ref 0] q (fX11_sentence ) := by
  refine ac_of (by decide +kernel) (Nat.le_of_ble_eq_true rfl) ?_
  unfold fX11_sentence
  show MF rI (yX11_sentence.cls, cX11_sentence, 2, (some .int), yX11_sentence.name, d + 38, 0, 0) 0 [(0, .ref 0)] [] q _
  refine mf_aload_n 0 dX11_sentence_0 rfl ?_
  refine mf_getr 11 8 dX11_sentence_1 fl_X11_63 (by decide) (by decide) rfl (lf_o (w_lf hq)) (lf_r8 (w_lf hq)) (by decide) ?_
  refine mf_aload_n 0 dX11_sentence_4 rfl ?_
  refine mf_getr 11 0 dX11_sentence_5 fl_X11_10 (by decide) (by decide) rfl (lf_o (w_lf hq)) (lf_r0 (w_lf hq)) (by decide) ?_
  refine mf_aload_n 0 dX11_sentence_8 rfl ?_
  refine mf_getr 11 1 dX11_sentence_9 fl_X11_19 (by decide) (by decide) rfl (lf_o (w_lf hq)) (lf_r1 (w_lf hq)) (by decide) ?_
  refine mf_cVi (rest := []) [.ref 1, .ref 4] (aX7_readOnes (d + 0) q hq) mY_X7_readOnes dX11_sentence_12 ml_X11_358 (se_o (w_se hq se135)) rfl rfl (Nat.le_of_ble_eq_true rfl) rfl (fun v1 => ?_)
  refine mf_istore_n [(1, .int v1), (0, .ref 0)] dX11_sentence_15 (Nat.le_of_ble_eq_true rfl) rfl ?_
  refine mf_aload_n 1 dX11_sentence_16 rfl ?_
  refine mf_aload_n 1 dX11_sentence_17 rfl ?_
  refine mf_getr 11 0 dX11_sentence_18 fl_X11_10 (by decide) (by decide) rfl (lf_o (w_lf hq)) (lf_r0 (w_lf hq)) (by decide) ?_
  refine mf_geti 10 9 dX11_sentence_21 fl_X11_112 (by decide) (by decide) rfl (tx_o (w_tx hq)) (fun v2 => ?_)
  refine mf_puti 11 13 dX11_sentence_24 fl_X11_93 (by decide) (by decide) rfl rfl (lf_o (w_lf hq)) ?_
  refine mf_aload_n 1 dX11_sentence_27 rfl ?_
  refine mf_getr 11 0 dX11_sentence_28 fl_X11_10 (by decide) (by decide) rfl (lf_o (w_lf hq)) (lf_r0 (w_lf hq)) (by decide) ?_
  refine mf_iconst (v := 0) dX11_sentence_31 rfl ?_
  refine mf_puti 10 1 dX11_sentence_32 fl_X11_101 (by decide) (by decide) rfl rfl (tx_o (w_tx hq)) ?_
  refine mf_iload_n 0 dX11_sentence_35 rfl ?_
  refine mf_if_ne (tgt := 49) dX11_sentence_36 (by decide) ?_ ?_
  · refine mf_aload_n 1 dX11_sentence_49 rfl ?_
    refine mf_getr 11 7 dX11_sentence_50 fl_X11_59 (by decide) (by decide) rfl (lf_o (w_lf hq)) (lf_r7 (w_lf hq)) (by decide) ?_
    refine mf_aload_n 1 dX11_sentence_53 rfl ?_
    refine mf_getr 11 8 dX11_sentence_54 fl_X11_63 (by decide) (by decide) rfl (lf_o (w_lf hq)) (lf_r8 (w_lf hq)) (by decide) ?_
    refine mf_cVv (rest := []) [.ref 135] (aX7_copyFrom (d + 35) q hq 130 135 se130 se135) mY_X7_copyFrom dX11_sentence_57 ml_X11_361 (se_o (w_se hq se130)) rfl rfl (Nat.le_of_ble_eq_true rfl) rfl (fun _ => ?_)
    refine mf_aload_n 1 dX11_sentence_60 rfl ?_
    refine mf_getr 11 7 dX11_sentence_61 fl_X11_59 (by decide) (by decide) rfl (lf_o (w_lf hq)) (lf_r7 (w_lf hq)) (by decide) ?_
    refine mf_geti 7 1 dX11_sentence_64 fl_X11_364 (by decide) (by decide) rfl (se_o (w_se hq se130)) (fun v3 => ?_)
    exact mf_ireturn dX11_sentence_67 rfl rfl ⟨rfl, rfl⟩
  · refine mf_iconst (v := -1) dX11_sentence_39 rfl ?_
    refine mf_aload_n 1 dX11_sentence_40 rfl ?_
    refine mf_getr 11 0 dX11_sentence_41 fl_X11_10 (by decide) (by decide) rfl (lf_o (w_lf hq)) (lf_r0 (w_lf hq)) (by decide) ?_
    refine mf_geti 10 10 dX11_sentence_44 fl_X11_115 (by decide) (by decide) rfl (tx_o (w_tx hq)) (fun v4 => ?_)
    refine mf_isub dX11_sentence_47 ?_
    exact mf_ireturn dX11_sentence_48 rfl rfl ⟨rfl, rfl⟩
set_option maxRecDepth 100000 in
set_option maxHeartbeats 4000000 in
theorem aX11_said (d : Nat) (q : m_S) (hq : isW q) (a1 : Int32) : AC rI yX11_said cX11_said 5 (some .int) (d + 5) [.ref 0, .int a1] q (fX11_said a1) := by
  refine ac_of (by decide +kernel) (Nat.le_of_ble_eq_true rfl) ?_
  unfold fX11_said
  show MF rI (yX11_said.cls, cX11_said, 5, (some .int), yX11_said.name, d + 5, 0, 0) 0 [(0, .ref 0), (1, .int a1)] [] q _
  refine mf_aload_n 0 dX11_said_0 rfl ?_
  refine mf_getr 11 7 dX11_said_1 fl_X11_59 (by decide) (by decide) rfl (lf_o (w_lf hq)) (lf_r7 (w_lf hq)) (by decide) ?_
  refine mf_geti 7 0 dX11_said_4 fl_X11_126 (by decide) (by decide) rfl (se_o (w_se hq se130)) (fun v1 => ?_)
  refine mf_if_eq (tgt := 15) dX11_said_7 (by decide) ?_ ?_
  · refine mf_iconst (v := -1) dX11_said_15 rfl ?_
    exact mf_ireturn dX11_said_16 rfl rfl ⟨rfl, rfl⟩
  · refine mf_iload_n 1 dX11_said_10 rfl ?_
    refine mf_iconst (v := -1) dX11_said_11 rfl ?_
    refine mf_icmp_ge (tgt := 17) dX11_said_12 (by decide) ?_ ?_
    · refine mf_aload_n 0 dX11_said_17 rfl ?_
      refine mf_getr 11 7 dX11_said_18 fl_X11_59 (by decide) (by decide) rfl (lf_o (w_lf hq)) (lf_r7 (w_lf hq)) (by decide) ?_
      refine mf_aload_n 0 dX11_said_21 rfl ?_
      refine mf_getr 11 1 dX11_said_22 fl_X11_19 (by decide) (by decide) rfl (lf_o (w_lf hq)) (lf_r1 (w_lf hq)) (by decide) ?_
      refine mf_aload_n 0 dX11_said_25 rfl ?_
      refine mf_getr 11 3 dX11_said_26 fl_X11_35 (by decide) (by decide) rfl (lf_o (w_lf hq)) (lf_r3 (w_lf hq)) (by decide) ?_
      refine mf_cVi (rest := []) [.ref 4, .ref 47] (aX7_trainsFitting (d + 0) q hq) mY_X7_trainsFitting dX11_said_29 ml_X11_367 (se_o (w_se hq se130)) rfl rfl (Nat.le_of_ble_eq_true rfl) rfl (fun v2 => ?_)
      refine mf_istore_n [(2, .int v2), (0, .ref 0), (1, .int a1)] dX11_said_32 (Nat.le_of_ble_eq_true rfl) rfl ?_
      refine mf_iload_n 2 dX11_said_33 rfl ?_
      refine mf_iconst (v := -1) dX11_said_34 rfl ?_
      refine mf_icmp_ne (tgt := 43) dX11_said_35 (by decide) ?_ ?_
      · refine mf_iconst (v := 0) dX11_said_43 rfl ?_
        refine mf_istore_n [(3, .int 0), (2, .int v2), (0, .ref 0), (1, .int a1)] dX11_said_44 (Nat.le_of_ble_eq_true rfl) rfl ?_
        refine mf_iconst (v := 0) dX11_said_45 rfl ?_
        refine mf_istore [(4, .int 0), (3, .int 0), (2, .int v2), (0, .ref 0), (1, .int a1)] dX11_said_46 (Nat.le_of_ble_eq_true rfl) rfl ?_
        refine mf_sub [3, 4, 2, 1, 0] rfl ?_
        refine mf_lz2 (lv := fun x3 x4 => [(0, .ref 0), (1, .int a1), (2, .int v2), (3, .int x3), (4, .int x4)]) (fun L48 h48 x3 x4 => ?_) _ _ _
        show MF rI (yX11_said.cls, cX11_said, 5, (some .int), yX11_said.name, d + 5, 0, 0) 48 [(0, .ref 0), (1, .int a1), (2, .int v2), (3, .int x3), (4, .int x4)] [] q _
        refine mf_iload 4 dX11_said_48 rfl ?_
        refine mf_aload_n 0 dX11_said_50 rfl ?_
        refine mf_getr 11 1 dX11_said_51 fl_X11_19 (by decide) (by decide) rfl (lf_o (w_lf hq)) (lf_r1 (w_lf hq)) (by decide) ?_
        refine mf_getr 5 0 dX11_said_54 fl_X11_324 (by decide) (by decide) rfl (pl_o (w_pl hq pl4)) (pl_r0 (w_pl hq pl4)) (by decide) ?_
        refine mf_bipush (v := 6) dX11_said_57 (by decide) ?_
        refine mf_iald dX11_said_59 (pl_a0 (w_pl hq pl4)) (fun v5 => ?_)
        refine mf_icmp_ge (tgt := 90) dX11_said_60 (by decide) ?_ ?_
        · refine mf_iconst (v := -1) dX11_said_90 rfl ?_
          exact mf_ireturn dX11_said_91 rfl rfl ⟨rfl, rfl⟩
        · refine mf_iload_n 2 dX11_said_63 rfl ?_
          refine mf_iload 4 dX11_said_64 rfl ?_
          refine mf_ishr dX11_said_66 ?_
          refine mf_iconst (v := 1) dX11_said_67 rfl ?_
          refine mf_iand dX11_said_68 ?_
          refine mf_iconst (v := 1) dX11_said_69 rfl ?_
          refine mf_icmp_ne (tgt := 84) dX11_said_70 (by decide) ?_ ?_
          · refine mf_iinc 4 (x4 + 1) [(4, .int (x4 + 1)), (0, .ref 0), (1, .int a1), (2, .int v2), (3, .int x3)] dX11_said_84 rfl rfl (Nat.le_of_ble_eq_true rfl) rfl ?_
            refine mf_goto (tgt := 48) dX11_said_87 (by decide) ?_
            refine mf_sub [1, 2, 3, 4, 0] rfl ?_
            exact h48 _ _
          · refine mf_iload_n 3 dX11_said_73 rfl ?_
            refine mf_iload_n 1 dX11_said_74 rfl ?_
            refine mf_icmp_ne (tgt := 81) dX11_said_75 (by decide) ?_ ?_
            · refine mf_iinc 3 (x3 + 1) [(3, .int (x3 + 1)), (0, .ref 0), (1, .int a1), (2, .int v2), (4, .int x4)] dX11_said_81 rfl rfl (Nat.le_of_ble_eq_true rfl) rfl ?_
              refine mf_iinc 4 (x4 + 1) [(4, .int (x4 + 1)), (3, .int (x3 + 1)), (0, .ref 0), (1, .int a1), (2, .int v2)] dX11_said_84 rfl rfl (Nat.le_of_ble_eq_true rfl) rfl ?_
              refine mf_goto (tgt := 48) dX11_said_87 (by decide) ?_
              refine mf_sub [2, 3, 4, 1, 0] rfl ?_
              exact h48 _ _
            · refine mf_iload 4 dX11_said_78 rfl ?_
              exact mf_ireturn dX11_said_80 rfl rfl ⟨rfl, rfl⟩
      · refine mf_iload_n 0 dX11_said_38 rfl ?_
        refine mf_cSi (rest := []) [.int v2] (aJ6_bitCount_0f7a4 (d + 3) q hq v2) mY_J6_bitCount_0f7a4 dX11_said_39 ml_X11_290 rfl rfl (Nat.le_of_ble_eq_true rfl) rfl (fun v6 => ?_)
        exact mf_ireturn dX11_said_42 rfl rfl ⟨rfl, rfl⟩
    · refine mf_iconst (v := -1) dX11_said_15 rfl ?_
      exact mf_ireturn dX11_said_16 rfl rfl ⟨rfl, rfl⟩
set_option maxRecDepth 100000 in
set_option maxHeartbeats 4000000 in
theorem aX11_image (d : Nat) (q : m_S) (hq : isW q) (a1 : Int32) : AC rI yX11_image cX11_image 2 (some .boolean) (d + 4) [.ref 0, .int a1] q (fX11_image a1) := by
  refine ac_of (by decide +kernel) (Nat.le_of_ble_eq_true rfl) ?_
  unfold fX11_image
  show MF rI (yX11_image.cls, cX11_image, 2, (some .boolean), yX11_image.name, d + 4, 0, 0) 0 [(0, .ref 0), (1, .int a1)] [] q _
  refine mf_iload_n 1 dX11_image_0 rfl ?_
  refine mf_if_lt (tgt := 9) dX11_image_1 (by decide) ?_ ?_
  · refine mf_iconst (v := 0) dX11_image_9 rfl ?_
    exact mf_ireturn dX11_image_10 rfl rfl ⟨rfl, rfl⟩
  · refine mf_iload_n 1 dX11_image_4 rfl ?_
    refine mf_iconst (v := 2) dX11_image_5 rfl ?_
    refine mf_icmp_lt (tgt := 11) dX11_image_6 (by decide) ?_ ?_
    · refine mf_aload_n 0 dX11_image_11 rfl ?_
      refine mf_getr 11 9 dX11_image_12 fl_X11_68 (by decide) (by decide) rfl (lf_o (w_lf hq)) (lf_r9 (w_lf hq)) (by decide) ?_
      refine mf_iload_n 1 dX11_image_15 rfl ?_
      refine mf_rM dX11_image_16 (w_ia hq) (fun b hb => ?_)
      refine mf_aload_n 0 dX11_image_17 rfl ?_
      refine mf_getr 11 1 dX11_image_18 fl_X11_19 (by decide) (by decide) rfl (lf_o (w_lf hq)) (lf_r1 (w_lf hq)) (by decide) ?_
      refine mf_aload_n 0 dX11_image_21 rfl ?_
      refine mf_getr 11 3 dX11_image_22 fl_X11_35 (by decide) (by decide) rfl (lf_o (w_lf hq)) (lf_r3 (w_lf hq)) (by decide) ?_
      refine mf_aload_n 0 dX11_image_25 rfl ?_
      refine mf_getr 11 7 dX11_image_26 fl_X11_59 (by decide) (by decide) rfl (lf_o (w_lf hq)) (lf_r7 (w_lf hq)) (by decide) ?_
      refine mf_cVv (rest := []) [.ref 4, .ref 47, .ref 130] (aX4_keep (d + 0) q hq b hb) mY_X4_keep dX11_image_29 ml_X11_371 (im_o (w_im hq hb)) rfl rfl (Nat.le_of_ble_eq_true rfl) rfl (fun _ => ?_)
      refine mf_iconst (v := 1) dX11_image_32 rfl ?_
      exact mf_ireturn dX11_image_33 rfl rfl ⟨rfl, rfl⟩
    · refine mf_iconst (v := 0) dX11_image_9 rfl ?_
      exact mf_ireturn dX11_image_10 rfl rfl ⟨rfl, rfl⟩
set_option maxRecDepth 100000 in
set_option maxHeartbeats 4000000 in
theorem aX11_restore (d : Nat) (q : m_S) (hq : isW q) (a1 : Int32) : AC rI yX11_restore cX11_restore 2 (some .boolean) (d + 4) [.ref 0, .int a1] q (fX11_restore a1) := by
  refine ac_of (by decide +kernel) (Nat.le_of_ble_eq_true rfl) ?_
  unfold fX11_restore
  show MF rI (yX11_restore.cls, cX11_restore, 2, (some .boolean), yX11_restore.name, d + 4, 0, 0) 0 [(0, .ref 0), (1, .int a1)] [] q _
  refine mf_iload_n 1 dX11_restore_0 rfl ?_
  refine mf_if_lt (tgt := 21) dX11_restore_1 (by decide) ?_ ?_
  · refine mf_iconst (v := 0) dX11_restore_21 rfl ?_
    exact mf_ireturn dX11_restore_22 rfl rfl ⟨rfl, rfl⟩
  · refine mf_iload_n 1 dX11_restore_4 rfl ?_
    refine mf_iconst (v := 2) dX11_restore_5 rfl ?_
    refine mf_icmp_ge (tgt := 21) dX11_restore_6 (by decide) ?_ ?_
    · refine mf_iconst (v := 0) dX11_restore_21 rfl ?_
      exact mf_ireturn dX11_restore_22 rfl rfl ⟨rfl, rfl⟩
    · refine mf_aload_n 0 dX11_restore_9 rfl ?_
      refine mf_getr 11 9 dX11_restore_10 fl_X11_68 (by decide) (by decide) rfl (lf_o (w_lf hq)) (lf_r9 (w_lf hq)) (by decide) ?_
      refine mf_iload_n 1 dX11_restore_13 rfl ?_
      refine mf_rM dX11_restore_14 (w_ia hq) (fun b hb => ?_)
      refine mf_geti 4 3 dX11_restore_15 fl_X11_375 (by decide) (by decide) rfl (im_o (w_im hq hb)) (fun v1 => ?_)
      refine mf_if_ne (tgt := 23) dX11_restore_18 (by decide) ?_ ?_
      · refine mf_aload_n 0 dX11_restore_23 rfl ?_
        refine mf_getr 11 9 dX11_restore_24 fl_X11_68 (by decide) (by decide) rfl (lf_o (w_lf hq)) (lf_r9 (w_lf hq)) (by decide) ?_
        refine mf_iload_n 1 dX11_restore_27 rfl ?_
        refine mf_rM dX11_restore_28 (w_ia hq) (fun b hb => ?_)
        refine mf_aload_n 0 dX11_restore_29 rfl ?_
        refine mf_getr 11 1 dX11_restore_30 fl_X11_19 (by decide) (by decide) rfl (lf_o (w_lf hq)) (lf_r1 (w_lf hq)) (by decide) ?_
        refine mf_aload_n 0 dX11_restore_33 rfl ?_
        refine mf_getr 11 3 dX11_restore_34 fl_X11_35 (by decide) (by decide) rfl (lf_o (w_lf hq)) (lf_r3 (w_lf hq)) (by decide) ?_
        refine mf_aload_n 0 dX11_restore_37 rfl ?_
        refine mf_getr 11 7 dX11_restore_38 fl_X11_59 (by decide) (by decide) rfl (lf_o (w_lf hq)) (lf_r7 (w_lf hq)) (by decide) ?_
        refine mf_cVv (rest := []) [.ref 4, .ref 47, .ref 130] (aX4_giveBack (d + 0) q hq b hb) mY_X4_giveBack dX11_restore_41 ml_X11_378 (im_o (w_im hq hb)) rfl rfl (Nat.le_of_ble_eq_true rfl) rfl (fun _ => ?_)
        refine mf_aload_n 0 dX11_restore_44 rfl ?_
        refine mf_getr 11 5 dX11_restore_45 fl_X11_45 (by decide) (by decide) rfl (lf_o (w_lf hq)) (lf_r5 (w_lf hq)) (by decide) ?_
        refine mf_iconst (v := 0) dX11_restore_48 rfl ?_
        refine mf_puti 3 1 dX11_restore_49 fl_X11_130 (by decide) (by decide) rfl rfl (hi_o (w_hi hq)) ?_
        refine mf_iconst (v := 1) dX11_restore_52 rfl ?_
        exact mf_ireturn dX11_restore_53 rfl rfl ⟨rfl, rfl⟩
      · refine mf_iconst (v := 0) dX11_restore_21 rfl ?_
        exact mf_ireturn dX11_restore_22 rfl rfl ⟨rfl, rfl⟩
set_option maxRecDepth 100000 in
set_option maxHeartbeats 4000000 in
theorem aX11_count (d : Nat) (q : m_S) (hq : isW q) (a1 : Int32) : AC rI yX11_count cX11_count 2 (some .int) (d + 1) [.ref 0, .int a1] q (fX11_count a1) := by
  refine ac_of (by decide +kernel) (Nat.le_of_ble_eq_true rfl) ?_
  unfold fX11_count
  show MF rI (yX11_count.cls, cX11_count, 2, (some .int), yX11_count.name, d + 1, 0, 0) 0 [(0, .ref 0), (1, .int a1)] [] q _
  refine mf_iload_n 1 dX11_count_0 rfl ?_
  refine mf_bipush (v := 8) dX11_count_1 (by decide) ?_
  refine mf_icmp_ne (tgt := 14) dX11_count_3 (by decide) ?_ ?_
  · refine mf_iload_n 1 dX11_count_14 rfl ?_
    refine mf_if_lt (tgt := 36) dX11_count_15 (by decide) ?_ ?_
    · refine mf_iconst (v := -1) dX11_count_36 rfl ?_
      exact mf_ireturn dX11_count_37 rfl rfl ⟨rfl, rfl⟩
    · refine mf_iload_n 1 dX11_count_18 rfl ?_
      refine mf_bipush (v := 8) dX11_count_19 (by decide) ?_
      refine mf_icmp_ge (tgt := 36) dX11_count_21 (by decide) ?_ ?_
      · refine mf_iconst (v := -1) dX11_count_36 rfl ?_
        exact mf_ireturn dX11_count_37 rfl rfl ⟨rfl, rfl⟩
      · refine mf_aload_n 0 dX11_count_24 rfl ?_
        refine mf_getr 11 1 dX11_count_25 fl_X11_19 (by decide) (by decide) rfl (lf_o (w_lf hq)) (lf_r1 (w_lf hq)) (by decide) ?_
        refine mf_getr 5 0 dX11_count_28 fl_X11_324 (by decide) (by decide) rfl (pl_o (w_pl hq pl4)) (pl_r0 (w_pl hq pl4)) (by decide) ?_
        refine mf_iload_n 1 dX11_count_31 rfl ?_
        refine mf_iald dX11_count_32 (pl_a0 (w_pl hq pl4)) (fun v1 => ?_)
        refine mf_goto (tgt := 37) dX11_count_33 (by decide) ?_
        exact mf_ireturn dX11_count_37 rfl rfl ⟨rfl, rfl⟩
  · refine mf_aload_n 0 dX11_count_6 rfl ?_
    refine mf_getr 11 0 dX11_count_7 fl_X11_10 (by decide) (by decide) rfl (lf_o (w_lf hq)) (lf_r0 (w_lf hq)) (by decide) ?_
    refine mf_geti 10 1 dX11_count_10 fl_X11_101 (by decide) (by decide) rfl (tx_o (w_tx hq)) (fun v2 => ?_)
    exact mf_ireturn dX11_count_13 rfl rfl ⟨rfl, rfl⟩
