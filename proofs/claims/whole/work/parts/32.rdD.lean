def r_signal (S : m_TX) (D : m_V) (N : m_L) (R : m_V) : m_RS := (if (r_hasRoom S D N R 3 8).1 = 0 then ((0 : Int32), ((r_hasRoom S D N R 3 8).2.1), D, N, R) else (if (t_newI D N (t_nextS ((r_hasRoom S D N R 3 8).2.1))) = 0 then ((0 : Int32), (t_newS D N (t_nextS ((r_hasRoom S D N R 3 8).2.1))), D, N, R) else (if (t_nameI D N (t_nextS (t_newS D N (t_nextS ((r_hasRoom S D N R 3 8).2.1)))) 0) = (-1) then ((0 : Int32), (t_nameS D N (t_nextS (t_newS D N (t_nextS ((r_hasRoom S D N R 3 8).2.1)))) 0), D, N, R) else (if (t_two (t_nextS (t_nameS D N (t_nextS (t_newS D N (t_nextS ((r_hasRoom S D N R 3 8).2.1)))) 0)).1 11) = (-1) then ((0 : Int32), (t_twoS (t_nextS (t_nameS D N (t_nextS (t_newS D N (t_nextS ((r_hasRoom S D N R 3 8).2.1)))) 0)) 11), D, N, R) else (if (p_signalAt D (t_nameI D N (t_nextS (t_newS D N (t_nextS ((r_hasRoom S D N R 3 8).2.1)))) 0) (t_two (t_nextS (t_nameS D N (t_nextS (t_newS D N (t_nextS ((r_hasRoom S D N R 3 8).2.1)))) 0)).1 11)) = (-1) then ((1 : Int32), (t_nextS (t_twoS (t_nextS (t_nameS D N (t_nextS (t_newS D N (t_nextS ((r_hasRoom S D N R 3 8).2.1)))) 0)) 11)), (u2 (u2 (u2 D 1 3 (nI (ct D 3 + 1))) 9 (ct D 3) (t_nameI D N (t_nextS (t_newS D N (t_nextS ((r_hasRoom S D N R 3 8).2.1)))) 0)) 10 (ct D 3) (t_two (t_nextS (t_nameS D N (t_nextS (t_newS D N (t_nextS ((r_hasRoom S D N R 3 8).2.1)))) 0)).1 11)), (u2l N 2 (3 * 12 + ct D 3) (((t_newS D N (t_nextS ((r_hasRoom S D N R 3 8).2.1))).2) 0 7)), R) else ((0 : Int32), (t_wrongS (t_twoS (t_nextS (t_nameS D N (t_nextS (t_newS D N (t_nextS ((r_hasRoom S D N R 3 8).2.1)))) 0)) 11) 3), D, N, R))))))
set_option maxRecDepth 100000 in
set_option maxHeartbeats 4000000 in
theorem c_X6_readSignal (d : Nat) (h : m_H) (S : m_TX) (D : m_V) (N : m_L) (R : m_V) (RL : m_L) (hx : isText h.2.2) (hr : isRead h.2.2) (hp : isPlan h.2.2 26) (hT : blI h 1 3 S.1) (hX : blJ h 1 3 S.2) (hD : blI h 26 21 D) (hDN : blJ h 26 21 N) (hR : blI h 25 1 R) (hRL : blJ h 25 1 RL) (hN : okP D) (ok : okT S.1) : MC yX6_readSignal cX6_readSignal 7 (some .boolean) (d + 5) 0 0 [.ref 25, .ref 1] h (m_r (.int (r_signal S D N R).1) (m_bk (m_bk (m_bk h 1 3 (r_signal S D N R).2.1.1 (r_signal S D N R).2.1.2) 25 1 (r_signal S D N R).2.2.2.2 RL) 26 21 (r_signal S D N R).2.2.1 (r_signal S D N R).2.2.2.1)) := by
  refine mc_of (by decide +kernel) (Nat.le_of_ble_eq_true rfl) ?_
  show MW (yX6_readSignal.cls, cX6_readSignal, 7, (some .boolean), yX6_readSignal.name, d + 5, 0, 0) 0 (0, 0) [(0, .ref 25), (1, .ref 1)] [] h _
  refine mw_hp (bk_self (n := 3) hT hX) ?_
  refine mw_hp (bk_self (n := 1) (bk_O hR (by decide)) (bk_OJ hRL (by decide))) ?_
  refine mw_hp (bk_self (n := 21) (bk_O (bk_O hD (by decide)) (by decide)) (bk_OJ (bk_OJ hDN (by decide)) (by decide))) ?_
  refine mw_aload_n 0 dX6_readSignal_0 rfl ?_
  refine mw_aload_n 1 dX6_readSignal_1 rfl ?_
  refine mw_iconst (v := 3) dX6_readSignal_2 rfl ?_
  refine mw_bipush (v := 8) dX6_readSignal_3 (by decide) ?_
  refine mw_cV (rest := []) [.ref 1, .int 3, .int 8] (c_X6_hasRoom (d + 2) (m_bk (m_bk (m_bk h 1 3 S.1 S.2) 25 1 R RL) 26 21 D N) S _ _ _ _ hx hr hp (bk_O (bk_O bk_I (by decide)) (by decide)) (bk_OJ (bk_OJ bk_J (by decide)) (by decide)) bk_I bk_J (bk_O bk_I (by decide)) (bk_OJ bk_J (by decide)) hN ok 3 8 (by decide)) mY_X6_hasRoom dX6_readSignal_5 ml_X6_90 (rd_o hr) rfl rfl (Nat.le_of_ble_eq_true rfl) ⟨Nat.le_refl _, Nat.le_refl _⟩ rfl ?_
  refine mw_hp (h' := (m_bk (m_bk (m_bk h 1 3 (((r_hasRoom S D N R 3 8).2.1).1) (((r_hasRoom S D N R 3 8).2.1).2)) 25 1 R RL) 26 21 D N)) (room_heap ) ?_
  refine mw_if_eq (tgt := 22) dX6_readSignal_8 (by decide) (fun c8 => ?_) (fun c8 => ?_)
  · refine mw_iconst (v := 0) dX6_readSignal_22 rfl ?_
    refine mw_ireturn dX6_readSignal_23 rfl rfl ⟨rfl, rfl⟩ ?_
    have e : r_signal S D N R = ((0 : Int32), ((r_hasRoom S D N R 3 8).2.1), D, N, R) := by rw [r_signal, if_pos c8]
    exact ⟨by rw [e], by rw [e]⟩
  · have hlt : ct D 3 < 8 := room_lt c8 hN.2.2.2.1.1 (by have := hN.2.2.2.1.2; omega) (by decide)
    refine mw_aload_n 1 dX6_readSignal_11 rfl ?_
    refine mw_aload_n 0 dX6_readSignal_12 rfl ?_
    refine mw_getr 6 0 dX6_readSignal_13 fl_X6_12 (by decide) (by decide) rfl (rd_o hr) (rd_r0 hr) ?_
    refine mw_cV (rest := []) [.ref 26] (cs_nextNewName d (m_bk (m_bk (m_bk h 1 3 (((r_hasRoom S D N R 3 8).2.1).1) (((r_hasRoom S D N R 3 8).2.1).2)) 25 1 R RL) 26 21 D N) ((r_hasRoom S D N R 3 8).2.1) hx (bk_O (bk_O bk_I (by decide)) (by decide)) (bk_OJ (bk_OJ bk_J (by decide)) (by decide)) 26 D N hp bk_I bk_J (by decide) hN (ok_room ok)) mY_X10_nextNewName dX6_readSignal_16 ml_X6_94 (tx_o hx) rfl rfl (Nat.le_of_ble_eq_true rfl) ⟨Nat.le_refl _, Nat.le_refl _⟩ rfl ?_
    refine mw_hp ((bk_cm (by decide)).trans (congrArg (fun z => m_bk z 26 21 D N) ((bk_cm (by decide)).trans (congrArg (fun z => m_bk z 25 1 R RL) bk_bk)))) ?_
    refine mw_if_ne (tgt := 24) dX6_readSignal_19 (by decide) (fun c19 => ?_) (fun c19 => ?_)
    · refine mw_aload_n 1 dX6_readSignal_24 rfl ?_
      refine mw_getl 10 7 dX6_readSignal_25 fl_X6_98 (by decide) (by decide) rfl (tx_o hx) ?_
      refine mw_topl (x' := (((t_newS D N (t_nextS ((r_hasRoom S D N R 3 8).2.1))).2) 0 7)) ((bk_OJ (bk_OJ bk_J (by decide)) (by decide)) 0 7 (by decide)) ?_
      refine mw_lstore_n [(2, .long (((t_newS D N (t_nextS ((r_hasRoom S D N R 3 8).2.1))).2) 0 7)), (0, .ref 25), (1, .ref 1)] dX6_readSignal_28 (Nat.le_of_ble_eq_true rfl) rfl ?_
      refine mw_aload_n 2 dX6_readSignal_29 rfl ?_
      refine mw_aload_n 1 dX6_readSignal_30 rfl ?_
      refine mw_getr 6 0 dX6_readSignal_31 fl_X6_12 (by decide) (by decide) rfl (rd_o hr) (rd_r0 hr) ?_
      refine mw_iconst (v := 0) dX6_readSignal_34 rfl ?_
      refine mw_cV (rest := []) [.ref 26, .int 0] (cs_nextNamed d (m_bk (m_bk (m_bk h 1 3 ((t_newS D N (t_nextS ((r_hasRoom S D N R 3 8).2.1))).1) ((t_newS D N (t_nextS ((r_hasRoom S D N R 3 8).2.1))).2)) 25 1 R RL) 26 21 D N) (t_newS D N (t_nextS ((r_hasRoom S D N R 3 8).2.1))) hx (bk_O (bk_O bk_I (by decide)) (by decide)) (bk_OJ (bk_OJ bk_J (by decide)) (by decide)) 26 D N hp bk_I bk_J (by decide) 0 _ (by decide) hN.1.1 hN.1.2 (ok_new (ok_next (ok_room ok)))) mY_X10_nextNamed dX6_readSignal_35 ml_X6_116 (tx_o hx) rfl rfl (Nat.le_of_ble_eq_true rfl) ⟨Nat.le_refl _, Nat.le_refl _⟩ rfl ?_
      refine mw_hp ((bk_cm (by decide)).trans (congrArg (fun z => m_bk z 26 21 D N) ((bk_cm (by decide)).trans (congrArg (fun z => m_bk z 25 1 R RL) bk_bk)))) ?_
      refine mw_istore [(4, .int (t_nameI D N (t_nextS (t_newS D N (t_nextS ((r_hasRoom S D N R 3 8).2.1)))) 0)), (2, .long (((t_newS D N (t_nextS ((r_hasRoom S D N R 3 8).2.1))).2) 0 7)), (0, .ref 25), (1, .ref 1)] dX6_readSignal_38 (Nat.le_of_ble_eq_true rfl) rfl ?_
      refine mw_iload 0 dX6_readSignal_40 rfl ?_
      refine mw_iconst (v := -1) dX6_readSignal_42 rfl ?_
      refine mw_icmp_ne (tgt := 50) dX6_readSignal_43 (by decide) (fun c43 => ?_) (fun c43 => ?_)
      · refine mw_aload_n 3 dX6_readSignal_50 rfl ?_
        refine mw_bipush (v := 11) dX6_readSignal_51 (by decide) ?_
        refine mw_cV (rest := []) [.int 11] (cs_nextOfTwo d (m_bk (m_bk (m_bk h 1 3 ((t_nameS D N (t_nextS (t_newS D N (t_nextS ((r_hasRoom S D N R 3 8).2.1)))) 0).1) ((t_nameS D N (t_nextS (t_newS D N (t_nextS ((r_hasRoom S D N R 3 8).2.1)))) 0).2)) 25 1 R RL) 26 21 D N) (t_nameS D N (t_nextS (t_newS D N (t_nextS ((r_hasRoom S D N R 3 8).2.1)))) 0) hx (bk_O (bk_O bk_I (by decide)) (by decide)) (bk_OJ (bk_OJ bk_J (by decide)) (by decide)) 11 (ok_name (ok_next (ok_new (ok_next (ok_room ok)))))) mY_X10_nextOfTwo dX6_readSignal_53 ml_X6_133 (tx_o hx) rfl rfl (Nat.le_of_ble_eq_true rfl) ⟨Nat.le_refl _, Nat.le_refl _⟩ rfl ?_
        refine mw_hp ((bk_cm (by decide)).trans (congrArg (fun z => m_bk z 26 21 D N) ((bk_cm (by decide)).trans (congrArg (fun z => m_bk z 25 1 R RL) bk_bk)))) ?_
        refine mw_istore [(5, .int (t_two (t_nextS (t_nameS D N (t_nextS (t_newS D N (t_nextS ((r_hasRoom S D N R 3 8).2.1)))) 0)).1 11)), (4, .int (t_nameI D N (t_nextS (t_newS D N (t_nextS ((r_hasRoom S D N R 3 8).2.1)))) 0)), (2, .long (((t_newS D N (t_nextS ((r_hasRoom S D N R 3 8).2.1))).2) 0 7)), (0, .ref 25), (1, .ref 1)] dX6_readSignal_56 (Nat.le_of_ble_eq_true rfl) rfl ?_
        refine mw_iload 0 dX6_readSignal_58 rfl ?_
        refine mw_iconst (v := -1) dX6_readSignal_60 rfl ?_
        refine mw_icmp_ne (tgt := 66) dX6_readSignal_61 (by decide) (fun c61 => ?_) (fun c61 => ?_)
        · refine mw_aload_n 3 dX6_readSignal_66 rfl ?_
          refine mw_getr 6 0 dX6_readSignal_67 fl_X6_12 (by decide) (by decide) rfl (rd_o hr) (rd_r0 hr) ?_
          refine mw_iload 1 dX6_readSignal_70 rfl ?_
          refine mw_iload 0 dX6_readSignal_72 rfl ?_
          refine mw_cV (rest := []) [.int (t_nameI D N (t_nextS (t_newS D N (t_nextS ((r_hasRoom S D N R 3 8).2.1)))) 0), .int (t_two (t_nextS (t_nameS D N (t_nextS (t_newS D N (t_nextS ((r_hasRoom S D N R 3 8).2.1)))) 0)).1 11)] (c_X5_signalAt (d + 3) (m_bk (m_bk (m_bk h 1 3 ((t_twoS (t_nextS (t_nameS D N (t_nextS (t_newS D N (t_nextS ((r_hasRoom S D N R 3 8).2.1)))) 0)) 11).1) ((t_twoS (t_nextS (t_nameS D N (t_nextS (t_newS D N (t_nextS ((r_hasRoom S D N R 3 8).2.1)))) 0)) 11).2)) 25 1 R RL) 26 21 D N) 26 D hp bk_I hN _ _) mY_X5_signalAt dX6_readSignal_74 ml_X6_156 (pl_o hp) rfl rfl (Nat.le_of_ble_eq_true rfl) ⟨Nat.le_refl _, Nat.le_refl _⟩ rfl ?_
          refine mw_iconst (v := -1) dX6_readSignal_77 rfl ?_
          refine mw_icmp_eq (tgt := 87) dX6_readSignal_78 (by decide) (fun c78 => ?_) (fun c78 => ?_)
          · refine mw_aload_n 3 dX6_readSignal_87 rfl ?_
            refine mw_getr 6 0 dX6_readSignal_88 fl_X6_12 (by decide) (by decide) rfl (rd_o hr) (rd_r0 hr) ?_
            refine mw_iconst (v := 3) dX6_readSignal_91 rfl ?_
            refine mw_lload_n 2 dX6_readSignal_92 rfl ?_
            refine mw_cV (rest := []) [.int 3, .long (((t_newS D N (t_nextS ((r_hasRoom S D N R 3 8).2.1))).2) 0 7)] (c_X5_addOne (d + 3) (m_bk (m_bk (m_bk h 1 3 ((t_twoS (t_nextS (t_nameS D N (t_nextS (t_newS D N (t_nextS ((r_hasRoom S D N R 3 8).2.1)))) 0)) 11).1) ((t_twoS (t_nextS (t_nameS D N (t_nextS (t_newS D N (t_nextS ((r_hasRoom S D N R 3 8).2.1)))) 0)) 11).2)) 25 1 R RL) 26 21 D N) 26 _ _ hp bk_I bk_J 3 (ct D 3) _ (by decide) hN.2.2.2.1.1 (by have := hN.2.2.2.1.2; omega)) mY_X5_addOne dX6_readSignal_93 ml_X6_109 (pl_o hp) rfl rfl (Nat.le_of_ble_eq_true rfl) ⟨Nat.le_refl _, Nat.le_refl _⟩ rfl ?_
            refine mw_hp bk_bk ?_
            refine mw_istore [(6, .int (nI (ct D 3))), (5, .int (t_two (t_nextS (t_nameS D N (t_nextS (t_newS D N (t_nextS ((r_hasRoom S D N R 3 8).2.1)))) 0)).1 11)), (4, .int (t_nameI D N (t_nextS (t_newS D N (t_nextS ((r_hasRoom S D N R 3 8).2.1)))) 0)), (2, .long (((t_newS D N (t_nextS ((r_hasRoom S D N R 3 8).2.1))).2) 0 7)), (0, .ref 25), (1, .ref 1)] dX6_readSignal_96 (Nat.le_of_ble_eq_true rfl) rfl ?_
            refine mw_aload_n 4 dX6_readSignal_98 rfl ?_
            refine mw_getr 6 0 dX6_readSignal_99 fl_X6_12 (by decide) (by decide) rfl (rd_o hr) (rd_r0 hr) ?_
            refine mw_getr 5 8 dX6_readSignal_102 fl_X6_159 (by decide) (by decide) rfl (pl_o hp) (pl_r8 hp) ?_
            refine mw_iload 0 dX6_readSignal_105 rfl ?_
            refine mw_iload 2 dX6_readSignal_107 rfl ?_
            refine mw_isN (ct D 3) dX6_readSignal_109 (pl_a8 hp) (by omega) (by decide) rfl ?_
            refine mw_hp (bk_si (j := 9) (by decide)) ?_
            refine mw_aload_n 4 dX6_readSignal_110 rfl ?_
            refine mw_getr 6 0 dX6_readSignal_111 fl_X6_12 (by decide) (by decide) rfl (rd_o hr) (rd_r0 hr) ?_
            refine mw_getr 5 9 dX6_readSignal_114 fl_X6_162 (by decide) (by decide) rfl (pl_o hp) (pl_r9 hp) ?_
            refine mw_iload 0 dX6_readSignal_117 rfl ?_
            refine mw_iload 1 dX6_readSignal_119 rfl ?_
            refine mw_isN (ct D 3) dX6_readSignal_121 (pl_a9 hp) (by omega) (by decide) rfl ?_
            refine mw_hp (bk_si (j := 10) (by decide)) ?_
            refine mw_aload_n 5 dX6_readSignal_122 rfl ?_
            refine mw_cS (rest := []) [.ref 1] (c_X6_goOn d (m_bk (m_bk (m_bk h 1 3 ((t_twoS (t_nextS (t_nameS D N (t_nextS (t_newS D N (t_nextS ((r_hasRoom S D N R 3 8).2.1)))) 0)) 11).1) ((t_twoS (t_nextS (t_nameS D N (t_nextS (t_newS D N (t_nextS ((r_hasRoom S D N R 3 8).2.1)))) 0)) 11).2)) 25 1 R RL) 26 21 (u2 (u2 (u2 D 1 3 (nI (ct D 3 + 1))) 9 (ct D 3) (t_nameI D N (t_nextS (t_newS D N (t_nextS ((r_hasRoom S D N R 3 8).2.1)))) 0)) 10 (ct D 3) (t_two (t_nextS (t_nameS D N (t_nextS (t_newS D N (t_nextS ((r_hasRoom S D N R 3 8).2.1)))) 0)).1 11)) (u2l N 2 (3 * 12 + ct D 3) (((t_newS D N (t_nextS ((r_hasRoom S D N R 3 8).2.1))).2) 0 7))) (t_twoS (t_nextS (t_nameS D N (t_nextS (t_newS D N (t_nextS ((r_hasRoom S D N R 3 8).2.1)))) 0)) 11) hx (bk_O (bk_O bk_I (by decide)) (by decide)) (bk_OJ (bk_OJ bk_J (by decide)) (by decide)) (ok_two (ok_next (ok_name (ok_next (ok_new (ok_next (ok_room ok)))))))) mY_X6_goOn dX6_readSignal_123 ml_X6_113 rfl rfl (Nat.le_of_ble_eq_true rfl) ⟨Nat.le_refl _, Nat.le_refl _⟩ rfl ?_
            refine mw_hp ((bk_cm (by decide)).trans (congrArg (fun z => m_bk z 26 21 (u2 (u2 (u2 D 1 3 (nI (ct D 3 + 1))) 9 (ct D 3) (t_nameI D N (t_nextS (t_newS D N (t_nextS ((r_hasRoom S D N R 3 8).2.1)))) 0)) 10 (ct D 3) (t_two (t_nextS (t_nameS D N (t_nextS (t_newS D N (t_nextS ((r_hasRoom S D N R 3 8).2.1)))) 0)).1 11)) (u2l N 2 (3 * 12 + ct D 3) (((t_newS D N (t_nextS ((r_hasRoom S D N R 3 8).2.1))).2) 0 7))) ((bk_cm (by decide)).trans (congrArg (fun z => m_bk z 25 1 R RL) bk_bk)))) ?_
            refine mw_ireturn dX6_readSignal_126 rfl rfl ⟨rfl, rfl⟩ ?_
            have e : r_signal S D N R = ((1 : Int32), (t_nextS (t_twoS (t_nextS (t_nameS D N (t_nextS (t_newS D N (t_nextS ((r_hasRoom S D N R 3 8).2.1)))) 0)) 11)), (u2 (u2 (u2 D 1 3 (nI (ct D 3 + 1))) 9 (ct D 3) (t_nameI D N (t_nextS (t_newS D N (t_nextS ((r_hasRoom S D N R 3 8).2.1)))) 0)) 10 (ct D 3) (t_two (t_nextS (t_nameS D N (t_nextS (t_newS D N (t_nextS ((r_hasRoom S D N R 3 8).2.1)))) 0)).1 11)), (u2l N 2 (3 * 12 + ct D 3) (((t_newS D N (t_nextS ((r_hasRoom S D N R 3 8).2.1))).2) 0 7)), R) := by rw [r_signal, if_neg c8, if_neg c19, if_neg c43, if_neg c61, if_pos c78]
            exact ⟨by rw [e], by rw [e]⟩
          · refine mw_aload_n 4 dX6_readSignal_81 rfl ?_
            refine mw_iconst (v := 3) dX6_readSignal_82 rfl ?_
            refine mw_cV (rest := []) [.int 3] (cs_wrong (d + 3) (m_bk (m_bk (m_bk h 1 3 ((t_twoS (t_nextS (t_nameS D N (t_nextS (t_newS D N (t_nextS ((r_hasRoom S D N R 3 8).2.1)))) 0)) 11).1) ((t_twoS (t_nextS (t_nameS D N (t_nextS (t_newS D N (t_nextS ((r_hasRoom S D N R 3 8).2.1)))) 0)) 11).2)) 25 1 R RL) 26 21 D N) (t_twoS (t_nextS (t_nameS D N (t_nextS (t_newS D N (t_nextS ((r_hasRoom S D N R 3 8).2.1)))) 0)) 11) hx (bk_O (bk_O bk_I (by decide)) (by decide)) (bk_OJ (bk_OJ bk_J (by decide)) (by decide)) 3) mY_X10_wrong dX6_readSignal_83 ml_X6_82 (tx_o hx) rfl rfl (Nat.le_of_ble_eq_true rfl) ⟨Nat.le_refl _, Nat.le_refl _⟩ rfl ?_
            refine mw_hp ((bk_cm (by decide)).trans (congrArg (fun z => m_bk z 26 21 D N) ((bk_cm (by decide)).trans (congrArg (fun z => m_bk z 25 1 R RL) bk_bk)))) ?_
            refine mw_ireturn dX6_readSignal_86 rfl rfl ⟨rfl, rfl⟩ ?_
            have e : r_signal S D N R = ((0 : Int32), (t_wrongS (t_twoS (t_nextS (t_nameS D N (t_nextS (t_newS D N (t_nextS ((r_hasRoom S D N R 3 8).2.1)))) 0)) 11) 3), D, N, R) := by rw [r_signal, if_neg c8, if_neg c19, if_neg c43, if_neg c61, if_neg c78]
            exact ⟨by rw [e], by rw [e]⟩
        · refine mw_iconst (v := 0) dX6_readSignal_64 rfl ?_
          refine mw_ireturn dX6_readSignal_65 rfl rfl ⟨rfl, rfl⟩ ?_
          have e : r_signal S D N R = ((0 : Int32), (t_twoS (t_nextS (t_nameS D N (t_nextS (t_newS D N (t_nextS ((r_hasRoom S D N R 3 8).2.1)))) 0)) 11), D, N, R) := by rw [r_signal, if_neg c8, if_neg c19, if_neg c43, if_pos c61]
          exact ⟨by rw [e], by rw [e]⟩
      · refine mw_iconst (v := -1) dX6_readSignal_46 rfl ?_
        refine mw_goto (tgt := 56) dX6_readSignal_47 (by decide) ?_
        refine mw_istore [(5, .int (-1)), (4, .int (t_nameI D N (t_nextS (t_newS D N (t_nextS ((r_hasRoom S D N R 3 8).2.1)))) 0)), (2, .long (((t_newS D N (t_nextS ((r_hasRoom S D N R 3 8).2.1))).2) 0 7)), (0, .ref 25), (1, .ref 1)] dX6_readSignal_56 (Nat.le_of_ble_eq_true rfl) rfl ?_
        refine mw_iload 0 dX6_readSignal_58 rfl ?_
        refine mw_iconst (v := -1) dX6_readSignal_60 rfl ?_
        refine mw_icmp_ne (tgt := 66) dX6_readSignal_61 (by decide) (fun c61 => ?_) (fun c61 => ?_)
        · exact absurd c61 (by decide)
        · refine mw_iconst (v := 0) dX6_readSignal_64 rfl ?_
          refine mw_ireturn dX6_readSignal_65 rfl rfl ⟨rfl, rfl⟩ ?_
          have e : r_signal S D N R = ((0 : Int32), (t_nameS D N (t_nextS (t_newS D N (t_nextS ((r_hasRoom S D N R 3 8).2.1)))) 0), D, N, R) := by rw [r_signal, if_neg c8, if_neg c19, if_pos c43]
          exact ⟨by rw [e], by rw [e]⟩
    · refine mw_iconst (v := 0) dX6_readSignal_22 rfl ?_
      refine mw_ireturn dX6_readSignal_23 rfl rfl ⟨rfl, rfl⟩ ?_
      have e : r_signal S D N R = ((0 : Int32), (t_newS D N (t_nextS ((r_hasRoom S D N R 3 8).2.1))), D, N, R) := by rw [r_signal, if_neg c8, if_pos c19]
      exact ⟨by rw [e], by rw [e]⟩
