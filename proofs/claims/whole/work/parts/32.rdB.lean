def r_points (S : m_TX) (D : m_V) (N : m_L) (R : m_V) : m_RS := (if (r_hasRoom S D N R 1 6).1 = 0 then ((0 : Int32), ((r_hasRoom S D N R 1 6).2.1), D, N, R) else (if (t_newI D N (t_nextS ((r_hasRoom S D N R 1 6).2.1))) = 0 then ((0 : Int32), (t_newS D N (t_nextS ((r_hasRoom S D N R 1 6).2.1))), D, N, R) else (if (t_nameI D N (t_nextS (t_newS D N (t_nextS ((r_hasRoom S D N R 1 6).2.1)))) 0) = (-1) then ((0 : Int32), (t_nameS D N (t_nextS (t_newS D N (t_nextS ((r_hasRoom S D N R 1 6).2.1)))) 0), D, N, R) else ((1 : Int32), (t_nextS (t_nameS D N (t_nextS (t_newS D N (t_nextS ((r_hasRoom S D N R 1 6).2.1)))) 0)), (u2 (u2 D 1 1 (nI (ct D 1 + 1))) 4 (ct D 1) (t_nameI D N (t_nextS (t_newS D N (t_nextS ((r_hasRoom S D N R 1 6).2.1)))) 0)), (u2l N 2 (1 * 12 + ct D 1) (((t_newS D N (t_nextS ((r_hasRoom S D N R 1 6).2.1))).2) 0 7)), R))))
set_option maxRecDepth 100000 in
set_option maxHeartbeats 4000000 in
theorem c_X6_readPoints (d : Nat) (h : m_H) (S : m_TX) (D : m_V) (N : m_L) (R : m_V) (RL : m_L) (hx : isText h.2.2) (hr : isRead h.2.2) (hp : isPlan h.2.2 26) (hT : blI h 1 3 S.1) (hX : blJ h 1 3 S.2) (hD : blI h 26 21 D) (hDN : blJ h 26 21 N) (hR : blI h 25 1 R) (hRL : blJ h 25 1 RL) (hN : okP D) (ok : okT S.1) : MC yX6_readPoints cX6_readPoints 5 (some .boolean) (d + 5) 0 0 [.ref 25, .ref 1] h (m_r (.int (r_points S D N R).1) (m_bk (m_bk (m_bk h 1 3 (r_points S D N R).2.1.1 (r_points S D N R).2.1.2) 25 1 (r_points S D N R).2.2.2.2 RL) 26 21 (r_points S D N R).2.2.1 (r_points S D N R).2.2.2.1)) := by
  refine mc_of (by decide +kernel) (Nat.le_of_ble_eq_true rfl) ?_
  show MW (yX6_readPoints.cls, cX6_readPoints, 5, (some .boolean), yX6_readPoints.name, d + 5, 0, 0) 0 (0, 0) [(0, .ref 25), (1, .ref 1)] [] h _
  refine mw_hp (bk_self (n := 3) hT hX) ?_
  refine mw_hp (bk_self (n := 1) (bk_O hR (by decide)) (bk_OJ hRL (by decide))) ?_
  refine mw_hp (bk_self (n := 21) (bk_O (bk_O hD (by decide)) (by decide)) (bk_OJ (bk_OJ hDN (by decide)) (by decide))) ?_
  refine mw_aload_n 0 dX6_readPoints_0 rfl ?_
  refine mw_aload_n 1 dX6_readPoints_1 rfl ?_
  refine mw_iconst (v := 1) dX6_readPoints_2 rfl ?_
  refine mw_bipush (v := 6) dX6_readPoints_3 (by decide) ?_
  refine mw_cV (rest := []) [.ref 1, .int 1, .int 6] (c_X6_hasRoom (d + 2) (m_bk (m_bk (m_bk h 1 3 S.1 S.2) 25 1 R RL) 26 21 D N) S _ _ _ _ hx hr hp (bk_O (bk_O bk_I (by decide)) (by decide)) (bk_OJ (bk_OJ bk_J (by decide)) (by decide)) bk_I bk_J (bk_O bk_I (by decide)) (bk_OJ bk_J (by decide)) hN ok 1 6 (by decide)) mY_X6_hasRoom dX6_readPoints_5 ml_X6_90 (rd_o hr) rfl rfl (Nat.le_of_ble_eq_true rfl) ⟨Nat.le_refl _, Nat.le_refl _⟩ rfl ?_
  refine mw_hp (h' := (m_bk (m_bk (m_bk h 1 3 (((r_hasRoom S D N R 1 6).2.1).1) (((r_hasRoom S D N R 1 6).2.1).2)) 25 1 R RL) 26 21 D N)) (room_heap ) ?_
  refine mw_if_eq (tgt := 22) dX6_readPoints_8 (by decide) (fun c8 => ?_) (fun c8 => ?_)
  · refine mw_iconst (v := 0) dX6_readPoints_22 rfl ?_
    refine mw_ireturn dX6_readPoints_23 rfl rfl ⟨rfl, rfl⟩ ?_
    have e : r_points S D N R = ((0 : Int32), ((r_hasRoom S D N R 1 6).2.1), D, N, R) := by rw [r_points, if_pos c8]
    exact ⟨by rw [e], by rw [e]⟩
  · have hlt : ct D 1 < 6 := room_lt c8 hN.2.1.1 (by have := hN.2.1.2; omega) (by decide)
    refine mw_aload_n 1 dX6_readPoints_11 rfl ?_
    refine mw_aload_n 0 dX6_readPoints_12 rfl ?_
    refine mw_getr 6 0 dX6_readPoints_13 fl_X6_12 (by decide) (by decide) rfl (rd_o hr) (rd_r0 hr) ?_
    refine mw_cV (rest := []) [.ref 26] (cs_nextNewName d (m_bk (m_bk (m_bk h 1 3 (((r_hasRoom S D N R 1 6).2.1).1) (((r_hasRoom S D N R 1 6).2.1).2)) 25 1 R RL) 26 21 D N) ((r_hasRoom S D N R 1 6).2.1) hx (bk_O (bk_O bk_I (by decide)) (by decide)) (bk_OJ (bk_OJ bk_J (by decide)) (by decide)) 26 D N hp bk_I bk_J (by decide) hN (ok_room ok)) mY_X10_nextNewName dX6_readPoints_16 ml_X6_94 (tx_o hx) rfl rfl (Nat.le_of_ble_eq_true rfl) ⟨Nat.le_refl _, Nat.le_refl _⟩ rfl ?_
    refine mw_hp ((bk_cm (by decide)).trans (congrArg (fun z => m_bk z 26 21 D N) ((bk_cm (by decide)).trans (congrArg (fun z => m_bk z 25 1 R RL) bk_bk)))) ?_
    refine mw_if_ne (tgt := 24) dX6_readPoints_19 (by decide) (fun c19 => ?_) (fun c19 => ?_)
    · refine mw_aload_n 1 dX6_readPoints_24 rfl ?_
      refine mw_getl 10 7 dX6_readPoints_25 fl_X6_98 (by decide) (by decide) rfl (tx_o hx) ?_
      refine mw_topl (x' := (((t_newS D N (t_nextS ((r_hasRoom S D N R 1 6).2.1))).2) 0 7)) ((bk_OJ (bk_OJ bk_J (by decide)) (by decide)) 0 7 (by decide)) ?_
      refine mw_lstore_n [(2, .long (((t_newS D N (t_nextS ((r_hasRoom S D N R 1 6).2.1))).2) 0 7)), (0, .ref 25), (1, .ref 1)] dX6_readPoints_28 (Nat.le_of_ble_eq_true rfl) rfl ?_
      refine mw_aload_n 2 dX6_readPoints_29 rfl ?_
      refine mw_aload_n 1 dX6_readPoints_30 rfl ?_
      refine mw_getr 6 0 dX6_readPoints_31 fl_X6_12 (by decide) (by decide) rfl (rd_o hr) (rd_r0 hr) ?_
      refine mw_iconst (v := 0) dX6_readPoints_34 rfl ?_
      refine mw_cV (rest := []) [.ref 26, .int 0] (cs_nextNamed d (m_bk (m_bk (m_bk h 1 3 ((t_newS D N (t_nextS ((r_hasRoom S D N R 1 6).2.1))).1) ((t_newS D N (t_nextS ((r_hasRoom S D N R 1 6).2.1))).2)) 25 1 R RL) 26 21 D N) (t_newS D N (t_nextS ((r_hasRoom S D N R 1 6).2.1))) hx (bk_O (bk_O bk_I (by decide)) (by decide)) (bk_OJ (bk_OJ bk_J (by decide)) (by decide)) 26 D N hp bk_I bk_J (by decide) 0 _ (by decide) hN.1.1 hN.1.2 (ok_new (ok_next (ok_room ok)))) mY_X10_nextNamed dX6_readPoints_35 ml_X6_116 (tx_o hx) rfl rfl (Nat.le_of_ble_eq_true rfl) ⟨Nat.le_refl _, Nat.le_refl _⟩ rfl ?_
      refine mw_hp ((bk_cm (by decide)).trans (congrArg (fun z => m_bk z 26 21 D N) ((bk_cm (by decide)).trans (congrArg (fun z => m_bk z 25 1 R RL) bk_bk)))) ?_
      refine mw_istore [(4, .int (t_nameI D N (t_nextS (t_newS D N (t_nextS ((r_hasRoom S D N R 1 6).2.1)))) 0)), (2, .long (((t_newS D N (t_nextS ((r_hasRoom S D N R 1 6).2.1))).2) 0 7)), (0, .ref 25), (1, .ref 1)] dX6_readPoints_38 (Nat.le_of_ble_eq_true rfl) rfl ?_
      refine mw_iload 0 dX6_readPoints_40 rfl ?_
      refine mw_iconst (v := -1) dX6_readPoints_42 rfl ?_
      refine mw_icmp_ne (tgt := 48) dX6_readPoints_43 (by decide) (fun c43 => ?_) (fun c43 => ?_)
      · refine mw_aload_n 2 dX6_readPoints_48 rfl ?_
        refine mw_getr 6 0 dX6_readPoints_49 fl_X6_12 (by decide) (by decide) rfl (rd_o hr) (rd_r0 hr) ?_
        refine mw_getr 5 3 dX6_readPoints_52 fl_X6_120 (by decide) (by decide) rfl (pl_o hp) (pl_r3 hp) ?_
        refine mw_aload_n 2 dX6_readPoints_55 rfl ?_
        refine mw_getr 6 0 dX6_readPoints_56 fl_X6_12 (by decide) (by decide) rfl (rd_o hr) (rd_r0 hr) ?_
        refine mw_iconst (v := 1) dX6_readPoints_59 rfl ?_
        refine mw_lload_n 1 dX6_readPoints_60 rfl ?_
        refine mw_cV (rest := [.ref (26 + 4)]) [.int 1, .long (((t_newS D N (t_nextS ((r_hasRoom S D N R 1 6).2.1))).2) 0 7)] (c_X5_addOne (d + 3) (m_bk (m_bk (m_bk h 1 3 ((t_nameS D N (t_nextS (t_newS D N (t_nextS ((r_hasRoom S D N R 1 6).2.1)))) 0).1) ((t_nameS D N (t_nextS (t_newS D N (t_nextS ((r_hasRoom S D N R 1 6).2.1)))) 0).2)) 25 1 R RL) 26 21 D N) 26 _ _ hp bk_I bk_J 1 (ct D 1) _ (by decide) hN.2.1.1 (by have := hN.2.1.2; omega)) mY_X5_addOne dX6_readPoints_61 ml_X6_109 (pl_o hp) rfl rfl (Nat.le_of_ble_eq_true rfl) ⟨Nat.le_refl _, Nat.le_refl _⟩ rfl ?_
        refine mw_hp bk_bk ?_
        refine mw_iload 0 dX6_readPoints_64 rfl ?_
        refine mw_isN (ct D 1) dX6_readPoints_66 (pl_a3 hp) (by omega) (by decide) rfl ?_
        refine mw_hp (bk_si (j := 4) (by decide)) ?_
        refine mw_aload_n 3 dX6_readPoints_67 rfl ?_
        refine mw_cS (rest := []) [.ref 1] (c_X6_goOn d (m_bk (m_bk (m_bk h 1 3 ((t_nameS D N (t_nextS (t_newS D N (t_nextS ((r_hasRoom S D N R 1 6).2.1)))) 0).1) ((t_nameS D N (t_nextS (t_newS D N (t_nextS ((r_hasRoom S D N R 1 6).2.1)))) 0).2)) 25 1 R RL) 26 21 (u2 (u2 D 1 1 (nI (ct D 1 + 1))) 4 (ct D 1) (t_nameI D N (t_nextS (t_newS D N (t_nextS ((r_hasRoom S D N R 1 6).2.1)))) 0)) (u2l N 2 (1 * 12 + ct D 1) (((t_newS D N (t_nextS ((r_hasRoom S D N R 1 6).2.1))).2) 0 7))) (t_nameS D N (t_nextS (t_newS D N (t_nextS ((r_hasRoom S D N R 1 6).2.1)))) 0) hx (bk_O (bk_O bk_I (by decide)) (by decide)) (bk_OJ (bk_OJ bk_J (by decide)) (by decide)) (ok_name (ok_next (ok_new (ok_next (ok_room ok)))))) mY_X6_goOn dX6_readPoints_68 ml_X6_113 rfl rfl (Nat.le_of_ble_eq_true rfl) ⟨Nat.le_refl _, Nat.le_refl _⟩ rfl ?_
        refine mw_hp ((bk_cm (by decide)).trans (congrArg (fun z => m_bk z 26 21 (u2 (u2 D 1 1 (nI (ct D 1 + 1))) 4 (ct D 1) (t_nameI D N (t_nextS (t_newS D N (t_nextS ((r_hasRoom S D N R 1 6).2.1)))) 0)) (u2l N 2 (1 * 12 + ct D 1) (((t_newS D N (t_nextS ((r_hasRoom S D N R 1 6).2.1))).2) 0 7))) ((bk_cm (by decide)).trans (congrArg (fun z => m_bk z 25 1 R RL) bk_bk)))) ?_
        refine mw_ireturn dX6_readPoints_71 rfl rfl ⟨rfl, rfl⟩ ?_
        have e : r_points S D N R = ((1 : Int32), (t_nextS (t_nameS D N (t_nextS (t_newS D N (t_nextS ((r_hasRoom S D N R 1 6).2.1)))) 0)), (u2 (u2 D 1 1 (nI (ct D 1 + 1))) 4 (ct D 1) (t_nameI D N (t_nextS (t_newS D N (t_nextS ((r_hasRoom S D N R 1 6).2.1)))) 0)), (u2l N 2 (1 * 12 + ct D 1) (((t_newS D N (t_nextS ((r_hasRoom S D N R 1 6).2.1))).2) 0 7)), R) := by rw [r_points, if_neg c8, if_neg c19, if_neg c43]
        exact ⟨by rw [e], by rw [e]⟩
      · refine mw_iconst (v := 0) dX6_readPoints_46 rfl ?_
        refine mw_ireturn dX6_readPoints_47 rfl rfl ⟨rfl, rfl⟩ ?_
        have e : r_points S D N R = ((0 : Int32), (t_nameS D N (t_nextS (t_newS D N (t_nextS ((r_hasRoom S D N R 1 6).2.1)))) 0), D, N, R) := by rw [r_points, if_neg c8, if_neg c19, if_pos c43]
        exact ⟨by rw [e], by rw [e]⟩
    · refine mw_iconst (v := 0) dX6_readPoints_22 rfl ?_
      refine mw_ireturn dX6_readPoints_23 rfl rfl ⟨rfl, rfl⟩ ?_
      have e : r_points S D N R = ((0 : Int32), (t_newS D N (t_nextS ((r_hasRoom S D N R 1 6).2.1))), D, N, R) := by rw [r_points, if_neg c8, if_pos c19]
      exact ⟨by rw [e], by rw [e]⟩
