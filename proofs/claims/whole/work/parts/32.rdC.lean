def r_route (S : m_TX) (D : m_V) (N : m_L) (R : m_V) : m_RS := (if (r_hasRoom S D N R 4 10).1 = 0 then ((0 : Int32), ((r_hasRoom S D N R 4 10).2.1), D, N, R) else (if (t_newI D N (t_nextS ((r_hasRoom S D N R 4 10).2.1))) = 0 then ((0 : Int32), (t_newS D N (t_nextS ((r_hasRoom S D N R 4 10).2.1))), D, N, R) else (if (t_nameI D N (t_nextS (t_newS D N (t_nextS ((r_hasRoom S D N R 4 10).2.1)))) 3) = (-1) then ((0 : Int32), (t_nameS D N (t_nextS (t_newS D N (t_nextS ((r_hasRoom S D N R 4 10).2.1)))) 3), D, N, R) else ((1 : Int32), (t_nextS (t_nameS D N (t_nextS (t_newS D N (t_nextS ((r_hasRoom S D N R 4 10).2.1)))) 3)), (u2 (u2 (u2 (u2 (u2 (u2 (u2 D 1 4 (nI (ct D 4 + 1))) 11 (ct D 4) (t_nameI D N (t_nextS (t_newS D N (t_nextS ((r_hasRoom S D N R 4 10).2.1)))) 3)) 12 (ct D 4) 0) 14 (ct D 4) 0) 15 (ct D 4) 0) 16 (ct D 4) 0) 17 (ct D 4) 0), (u2l N 2 (4 * 12 + ct D 4) (((t_newS D N (t_nextS ((r_hasRoom S D N R 4 10).2.1))).2) 0 7)), R))))
set_option maxRecDepth 100000 in
set_option maxHeartbeats 4000000 in
theorem c_X6_readRoute (d : Nat) (h : m_H) (S : m_TX) (D : m_V) (N : m_L) (R : m_V) (RL : m_L) (hx : isText h.2.2) (hr : isRead h.2.2) (hp : isPlan h.2.2 26) (hT : blI h 1 3 S.1) (hX : blJ h 1 3 S.2) (hD : blI h 26 21 D) (hDN : blJ h 26 21 N) (hR : blI h 25 1 R) (hRL : blJ h 25 1 RL) (hN : okP D) (ok : okT S.1) : MC yX6_readRoute cX6_readRoute 6 (some .boolean) (d + 5) 0 0 [.ref 25, .ref 1] h (m_r (.int (r_route S D N R).1) (m_bk (m_bk (m_bk h 1 3 (r_route S D N R).2.1.1 (r_route S D N R).2.1.2) 25 1 (r_route S D N R).2.2.2.2 RL) 26 21 (r_route S D N R).2.2.1 (r_route S D N R).2.2.2.1)) := by
  refine mc_of (by decide +kernel) (Nat.le_of_ble_eq_true rfl) ?_
  show MW (yX6_readRoute.cls, cX6_readRoute, 6, (some .boolean), yX6_readRoute.name, d + 5, 0, 0) 0 (0, 0) [(0, .ref 25), (1, .ref 1)] [] h _
  refine mw_hp (bk_self (n := 3) hT hX) ?_
  refine mw_hp (bk_self (n := 1) (bk_O hR (by decide)) (bk_OJ hRL (by decide))) ?_
  refine mw_hp (bk_self (n := 21) (bk_O (bk_O hD (by decide)) (by decide)) (bk_OJ (bk_OJ hDN (by decide)) (by decide))) ?_
  refine mw_aload_n 0 dX6_readRoute_0 rfl ?_
  refine mw_aload_n 1 dX6_readRoute_1 rfl ?_
  refine mw_iconst (v := 4) dX6_readRoute_2 rfl ?_
  refine mw_bipush (v := 10) dX6_readRoute_3 (by decide) ?_
  refine mw_cV (rest := []) [.ref 1, .int 4, .int 10] (c_X6_hasRoom (d + 2) (m_bk (m_bk (m_bk h 1 3 S.1 S.2) 25 1 R RL) 26 21 D N) S _ _ _ _ hx hr hp (bk_O (bk_O bk_I (by decide)) (by decide)) (bk_OJ (bk_OJ bk_J (by decide)) (by decide)) bk_I bk_J (bk_O bk_I (by decide)) (bk_OJ bk_J (by decide)) hN ok 4 10 (by decide)) mY_X6_hasRoom dX6_readRoute_5 ml_X6_90 (rd_o hr) rfl rfl (Nat.le_of_ble_eq_true rfl) ⟨Nat.le_refl _, Nat.le_refl _⟩ rfl ?_
  refine mw_hp (h' := (m_bk (m_bk (m_bk h 1 3 (((r_hasRoom S D N R 4 10).2.1).1) (((r_hasRoom S D N R 4 10).2.1).2)) 25 1 R RL) 26 21 D N)) (room_heap ) ?_
  refine mw_if_eq (tgt := 22) dX6_readRoute_8 (by decide) (fun c8 => ?_) (fun c8 => ?_)
  · refine mw_iconst (v := 0) dX6_readRoute_22 rfl ?_
    refine mw_ireturn dX6_readRoute_23 rfl rfl ⟨rfl, rfl⟩ ?_
    have e : r_route S D N R = ((0 : Int32), ((r_hasRoom S D N R 4 10).2.1), D, N, R) := by rw [r_route, if_pos c8]
    exact ⟨by rw [e], by rw [e]⟩
  · have hlt : ct D 4 < 10 := room_lt c8 hN.2.2.2.2.1.1 (by have := hN.2.2.2.2.1.2; omega) (by decide)
    refine mw_aload_n 1 dX6_readRoute_11 rfl ?_
    refine mw_aload_n 0 dX6_readRoute_12 rfl ?_
    refine mw_getr 6 0 dX6_readRoute_13 fl_X6_12 (by decide) (by decide) rfl (rd_o hr) (rd_r0 hr) ?_
    refine mw_cV (rest := []) [.ref 26] (cs_nextNewName d (m_bk (m_bk (m_bk h 1 3 (((r_hasRoom S D N R 4 10).2.1).1) (((r_hasRoom S D N R 4 10).2.1).2)) 25 1 R RL) 26 21 D N) ((r_hasRoom S D N R 4 10).2.1) hx (bk_O (bk_O bk_I (by decide)) (by decide)) (bk_OJ (bk_OJ bk_J (by decide)) (by decide)) 26 D N hp bk_I bk_J (by decide) hN (ok_room ok)) mY_X10_nextNewName dX6_readRoute_16 ml_X6_94 (tx_o hx) rfl rfl (Nat.le_of_ble_eq_true rfl) ⟨Nat.le_refl _, Nat.le_refl _⟩ rfl ?_
    refine mw_hp ((bk_cm (by decide)).trans (congrArg (fun z => m_bk z 26 21 D N) ((bk_cm (by decide)).trans (congrArg (fun z => m_bk z 25 1 R RL) bk_bk)))) ?_
    refine mw_if_ne (tgt := 24) dX6_readRoute_19 (by decide) (fun c19 => ?_) (fun c19 => ?_)
    · refine mw_aload_n 1 dX6_readRoute_24 rfl ?_
      refine mw_getl 10 7 dX6_readRoute_25 fl_X6_98 (by decide) (by decide) rfl (tx_o hx) ?_
      refine mw_topl (x' := (((t_newS D N (t_nextS ((r_hasRoom S D N R 4 10).2.1))).2) 0 7)) ((bk_OJ (bk_OJ bk_J (by decide)) (by decide)) 0 7 (by decide)) ?_
      refine mw_lstore_n [(2, .long (((t_newS D N (t_nextS ((r_hasRoom S D N R 4 10).2.1))).2) 0 7)), (0, .ref 25), (1, .ref 1)] dX6_readRoute_28 (Nat.le_of_ble_eq_true rfl) rfl ?_
      refine mw_aload_n 2 dX6_readRoute_29 rfl ?_
      refine mw_aload_n 1 dX6_readRoute_30 rfl ?_
      refine mw_getr 6 0 dX6_readRoute_31 fl_X6_12 (by decide) (by decide) rfl (rd_o hr) (rd_r0 hr) ?_
      refine mw_iconst (v := 3) dX6_readRoute_34 rfl ?_
      refine mw_cV (rest := []) [.ref 26, .int 3] (cs_nextNamed d (m_bk (m_bk (m_bk h 1 3 ((t_newS D N (t_nextS ((r_hasRoom S D N R 4 10).2.1))).1) ((t_newS D N (t_nextS ((r_hasRoom S D N R 4 10).2.1))).2)) 25 1 R RL) 26 21 D N) (t_newS D N (t_nextS ((r_hasRoom S D N R 4 10).2.1))) hx (bk_O (bk_O bk_I (by decide)) (by decide)) (bk_OJ (bk_OJ bk_J (by decide)) (by decide)) 26 D N hp bk_I bk_J (by decide) 3 _ (by decide) hN.2.2.2.1.1 (by have := hN.2.2.2.1.2; omega) (ok_new (ok_next (ok_room ok)))) mY_X10_nextNamed dX6_readRoute_35 ml_X6_116 (tx_o hx) rfl rfl (Nat.le_of_ble_eq_true rfl) ⟨Nat.le_refl _, Nat.le_refl _⟩ rfl ?_
      refine mw_hp ((bk_cm (by decide)).trans (congrArg (fun z => m_bk z 26 21 D N) ((bk_cm (by decide)).trans (congrArg (fun z => m_bk z 25 1 R RL) bk_bk)))) ?_
      refine mw_istore [(4, .int (t_nameI D N (t_nextS (t_newS D N (t_nextS ((r_hasRoom S D N R 4 10).2.1)))) 3)), (2, .long (((t_newS D N (t_nextS ((r_hasRoom S D N R 4 10).2.1))).2) 0 7)), (0, .ref 25), (1, .ref 1)] dX6_readRoute_38 (Nat.le_of_ble_eq_true rfl) rfl ?_
      refine mw_iload 0 dX6_readRoute_40 rfl ?_
      refine mw_iconst (v := -1) dX6_readRoute_42 rfl ?_
      refine mw_icmp_ne (tgt := 48) dX6_readRoute_43 (by decide) (fun c43 => ?_) (fun c43 => ?_)
      · refine mw_aload_n 2 dX6_readRoute_48 rfl ?_
        refine mw_getr 6 0 dX6_readRoute_49 fl_X6_12 (by decide) (by decide) rfl (rd_o hr) (rd_r0 hr) ?_
        refine mw_iconst (v := 4) dX6_readRoute_52 rfl ?_
        refine mw_lload_n 1 dX6_readRoute_53 rfl ?_
        refine mw_cV (rest := []) [.int 4, .long (((t_newS D N (t_nextS ((r_hasRoom S D N R 4 10).2.1))).2) 0 7)] (c_X5_addOne (d + 3) (m_bk (m_bk (m_bk h 1 3 ((t_nameS D N (t_nextS (t_newS D N (t_nextS ((r_hasRoom S D N R 4 10).2.1)))) 3).1) ((t_nameS D N (t_nextS (t_newS D N (t_nextS ((r_hasRoom S D N R 4 10).2.1)))) 3).2)) 25 1 R RL) 26 21 D N) 26 _ _ hp bk_I bk_J 4 (ct D 4) _ (by decide) hN.2.2.2.2.1.1 (by have := hN.2.2.2.2.1.2; omega)) mY_X5_addOne dX6_readRoute_54 ml_X6_109 (pl_o hp) rfl rfl (Nat.le_of_ble_eq_true rfl) ⟨Nat.le_refl _, Nat.le_refl _⟩ rfl ?_
        refine mw_hp bk_bk ?_
        refine mw_istore [(5, .int (nI (ct D 4))), (4, .int (t_nameI D N (t_nextS (t_newS D N (t_nextS ((r_hasRoom S D N R 4 10).2.1)))) 3)), (2, .long (((t_newS D N (t_nextS ((r_hasRoom S D N R 4 10).2.1))).2) 0 7)), (0, .ref 25), (1, .ref 1)] dX6_readRoute_57 (Nat.le_of_ble_eq_true rfl) rfl ?_
        refine mw_aload_n 3 dX6_readRoute_59 rfl ?_
        refine mw_getr 6 0 dX6_readRoute_60 fl_X6_12 (by decide) (by decide) rfl (rd_o hr) (rd_r0 hr) ?_
        refine mw_getr 5 10 dX6_readRoute_63 fl_X6_165 (by decide) (by decide) rfl (pl_o hp) (pl_r10 hp) ?_
        refine mw_iload 0 dX6_readRoute_66 rfl ?_
        refine mw_iload 1 dX6_readRoute_68 rfl ?_
        refine mw_isN (ct D 4) dX6_readRoute_70 (pl_a10 hp) (by omega) (by decide) rfl ?_
        refine mw_hp (bk_si (j := 11) (by decide)) ?_
        refine mw_aload_n 3 dX6_readRoute_71 rfl ?_
        refine mw_getr 6 0 dX6_readRoute_72 fl_X6_12 (by decide) (by decide) rfl (rd_o hr) (rd_r0 hr) ?_
        refine mw_getr 5 11 dX6_readRoute_75 fl_X6_168 (by decide) (by decide) rfl (pl_o hp) (pl_r11 hp) ?_
        refine mw_iload 0 dX6_readRoute_78 rfl ?_
        refine mw_iconst (v := 0) dX6_readRoute_80 rfl ?_
        refine mw_isN (ct D 4) dX6_readRoute_81 (pl_a11 hp) (by omega) (by decide) rfl ?_
        refine mw_hp (bk_si (j := 12) (by decide)) ?_
        refine mw_aload_n 3 dX6_readRoute_82 rfl ?_
        refine mw_getr 6 0 dX6_readRoute_83 fl_X6_12 (by decide) (by decide) rfl (rd_o hr) (rd_r0 hr) ?_
        refine mw_getr 5 13 dX6_readRoute_86 fl_X6_171 (by decide) (by decide) rfl (pl_o hp) (pl_r13 hp) ?_
        refine mw_iload 0 dX6_readRoute_89 rfl ?_
        refine mw_iconst (v := 0) dX6_readRoute_91 rfl ?_
        refine mw_isN (ct D 4) dX6_readRoute_92 (pl_a13 hp) (by omega) (by decide) rfl ?_
        refine mw_hp (bk_si (j := 14) (by decide)) ?_
        refine mw_aload_n 3 dX6_readRoute_93 rfl ?_
        refine mw_getr 6 0 dX6_readRoute_94 fl_X6_12 (by decide) (by decide) rfl (rd_o hr) (rd_r0 hr) ?_
        refine mw_getr 5 14 dX6_readRoute_97 fl_X6_174 (by decide) (by decide) rfl (pl_o hp) (pl_r14 hp) ?_
        refine mw_iload 0 dX6_readRoute_100 rfl ?_
        refine mw_iconst (v := 0) dX6_readRoute_102 rfl ?_
        refine mw_isN (ct D 4) dX6_readRoute_103 (pl_a14 hp) (by omega) (by decide) rfl ?_
        refine mw_hp (bk_si (j := 15) (by decide)) ?_
        refine mw_aload_n 3 dX6_readRoute_104 rfl ?_
        refine mw_getr 6 0 dX6_readRoute_105 fl_X6_12 (by decide) (by decide) rfl (rd_o hr) (rd_r0 hr) ?_
        refine mw_getr 5 15 dX6_readRoute_108 fl_X6_177 (by decide) (by decide) rfl (pl_o hp) (pl_r15 hp) ?_
        refine mw_iload 0 dX6_readRoute_111 rfl ?_
        refine mw_iconst (v := 0) dX6_readRoute_113 rfl ?_
        refine mw_isN (ct D 4) dX6_readRoute_114 (pl_a15 hp) (by omega) (by decide) rfl ?_
        refine mw_hp (bk_si (j := 16) (by decide)) ?_
        refine mw_aload_n 3 dX6_readRoute_115 rfl ?_
        refine mw_getr 6 0 dX6_readRoute_116 fl_X6_12 (by decide) (by decide) rfl (rd_o hr) (rd_r0 hr) ?_
        refine mw_getr 5 16 dX6_readRoute_119 fl_X6_180 (by decide) (by decide) rfl (pl_o hp) (pl_r16 hp) ?_
        refine mw_iload 0 dX6_readRoute_122 rfl ?_
        refine mw_iconst (v := 0) dX6_readRoute_124 rfl ?_
        refine mw_isN (ct D 4) dX6_readRoute_125 (pl_a16 hp) (by omega) (by decide) rfl ?_
        refine mw_hp (bk_si (j := 17) (by decide)) ?_
        refine mw_aload_n 4 dX6_readRoute_126 rfl ?_
        refine mw_cS (rest := []) [.ref 1] (c_X6_goOn d (m_bk (m_bk (m_bk h 1 3 ((t_nameS D N (t_nextS (t_newS D N (t_nextS ((r_hasRoom S D N R 4 10).2.1)))) 3).1) ((t_nameS D N (t_nextS (t_newS D N (t_nextS ((r_hasRoom S D N R 4 10).2.1)))) 3).2)) 25 1 R RL) 26 21 (u2 (u2 (u2 (u2 (u2 (u2 (u2 D 1 4 (nI (ct D 4 + 1))) 11 (ct D 4) (t_nameI D N (t_nextS (t_newS D N (t_nextS ((r_hasRoom S D N R 4 10).2.1)))) 3)) 12 (ct D 4) 0) 14 (ct D 4) 0) 15 (ct D 4) 0) 16 (ct D 4) 0) 17 (ct D 4) 0) (u2l N 2 (4 * 12 + ct D 4) (((t_newS D N (t_nextS ((r_hasRoom S D N R 4 10).2.1))).2) 0 7))) (t_nameS D N (t_nextS (t_newS D N (t_nextS ((r_hasRoom S D N R 4 10).2.1)))) 3) hx (bk_O (bk_O bk_I (by decide)) (by decide)) (bk_OJ (bk_OJ bk_J (by decide)) (by decide)) (ok_name (ok_next (ok_new (ok_next (ok_room ok)))))) mY_X6_goOn dX6_readRoute_127 ml_X6_113 rfl rfl (Nat.le_of_ble_eq_true rfl) ⟨Nat.le_refl _, Nat.le_refl _⟩ rfl ?_
        refine mw_hp ((bk_cm (by decide)).trans (congrArg (fun z => m_bk z 26 21 (u2 (u2 (u2 (u2 (u2 (u2 (u2 D 1 4 (nI (ct D 4 + 1))) 11 (ct D 4) (t_nameI D N (t_nextS (t_newS D N (t_nextS ((r_hasRoom S D N R 4 10).2.1)))) 3)) 12 (ct D 4) 0) 14 (ct D 4) 0) 15 (ct D 4) 0) 16 (ct D 4) 0) 17 (ct D 4) 0) (u2l N 2 (4 * 12 + ct D 4) (((t_newS D N (t_nextS ((r_hasRoom S D N R 4 10).2.1))).2) 0 7))) ((bk_cm (by decide)).trans (congrArg (fun z => m_bk z 25 1 R RL) bk_bk)))) ?_
        refine mw_ireturn dX6_readRoute_130 rfl rfl ⟨rfl, rfl⟩ ?_
        have e : r_route S D N R = ((1 : Int32), (t_nextS (t_nameS D N (t_nextS (t_newS D N (t_nextS ((r_hasRoom S D N R 4 10).2.1)))) 3)), (u2 (u2 (u2 (u2 (u2 (u2 (u2 D 1 4 (nI (ct D 4 + 1))) 11 (ct D 4) (t_nameI D N (t_nextS (t_newS D N (t_nextS ((r_hasRoom S D N R 4 10).2.1)))) 3)) 12 (ct D 4) 0) 14 (ct D 4) 0) 15 (ct D 4) 0) 16 (ct D 4) 0) 17 (ct D 4) 0), (u2l N 2 (4 * 12 + ct D 4) (((t_newS D N (t_nextS ((r_hasRoom S D N R 4 10).2.1))).2) 0 7)), R) := by rw [r_route, if_neg c8, if_neg c19, if_neg c43]
        exact ⟨by rw [e], by rw [e]⟩
      · refine mw_iconst (v := 0) dX6_readRoute_46 rfl ?_
        refine mw_ireturn dX6_readRoute_47 rfl rfl ⟨rfl, rfl⟩ ?_
        have e : r_route S D N R = ((0 : Int32), (t_nameS D N (t_nextS (t_newS D N (t_nextS ((r_hasRoom S D N R 4 10).2.1)))) 3), D, N, R) := by rw [r_route, if_neg c8, if_neg c19, if_pos c43]
        exact ⟨by rw [e], by rw [e]⟩
    · refine mw_iconst (v := 0) dX6_readRoute_22 rfl ?_
      refine mw_ireturn dX6_readRoute_23 rfl rfl ⟨rfl, rfl⟩ ?_
      have e : r_route S D N R = ((0 : Int32), (t_newS D N (t_nextS ((r_hasRoom S D N R 4 10).2.1))), D, N, R) := by rw [r_route, if_neg c8, if_pos c19]
      exact ⟨by rw [e], by rw [e]⟩
