def r_hold (S : m_TX) (D : m_V) (N : m_L) (R : m_V) : m_RS := (if (R 0 2) = 0 then (if (t_num (t_nextS S).1 1 30) = (-1) then ((0 : Int32), (t_numS (t_nextS S) 1 30), D, N, R) else ((1 : Int32), (t_nextS (t_numS (t_nextS S) 1 30)), (u2 D 1 7 (t_num (t_nextS S).1 1 30)), N, (u2 R 0 2 1))) else ((0 : Int32), (t_wrongS S 3), D, N, R))
set_option maxRecDepth 100000 in
set_option maxHeartbeats 4000000 in
theorem c_X6_readHold (d : Nat) (h : m_H) (S : m_TX) (D : m_V) (N : m_L) (R : m_V) (RL : m_L) (hx : isText h.2.2) (hr : isRead h.2.2) (hp : isPlan h.2.2 26) (hT : blI h 1 3 S.1) (hX : blJ h 1 3 S.2) (hD : blI h 26 21 D) (hDN : blJ h 26 21 N) (hR : blI h 25 1 R) (hRL : blJ h 25 1 RL) (hN : okP D) (ok : okT S.1) : MC yX6_readHold cX6_readHold 3 (some .boolean) (d + 5) 0 0 [.ref 25, .ref 1] h (m_r (.int (r_hold S D N R).1) (m_bk (m_bk (m_bk h 1 3 (r_hold S D N R).2.1.1 (r_hold S D N R).2.1.2) 25 1 (r_hold S D N R).2.2.2.2 RL) 26 21 (r_hold S D N R).2.2.1 (r_hold S D N R).2.2.2.1)) := by
  refine mc_of (by decide +kernel) (Nat.le_of_ble_eq_true rfl) ?_
  show MW (yX6_readHold.cls, cX6_readHold, 3, (some .boolean), yX6_readHold.name, d + 5, 0, 0) 0 (0, 0) [(0, .ref 25), (1, .ref 1)] [] h _
  refine mw_hp (bk_self (n := 3) hT hX) ?_
  refine mw_hp (bk_self (n := 1) (bk_O hR (by decide)) (bk_OJ hRL (by decide))) ?_
  refine mw_hp (bk_self (n := 21) (bk_O (bk_O hD (by decide)) (by decide)) (bk_OJ (bk_OJ hDN (by decide)) (by decide))) ?_
  refine mw_aload_n 0 dX6_readHold_0 rfl ?_
  refine mw_geti 6 2 dX6_readHold_1 fl_X6_22 (by decide) (by decide) rfl (rd_o hr) ?_
  refine mw_top (x' := (R 0 2)) ((bk_O bk_I (by decide)) 0 2 (by decide)) ?_
  refine mw_if_eq (tgt := 13) dX6_readHold_4 (by decide) (fun c4 => ?_) (fun c4 => ?_)
  · refine mw_aload_n 1 dX6_readHold_13 rfl ?_
    refine mw_iconst (v := 1) dX6_readHold_14 rfl ?_
    refine mw_bipush (v := 30) dX6_readHold_15 (by decide) ?_
    refine mw_cV (rest := []) [.int 1, .int 30] (cs_nextNumber d (m_bk (m_bk (m_bk h 1 3 S.1 S.2) 25 1 R RL) 26 21 D N) S hx (bk_O (bk_O bk_I (by decide)) (by decide)) (bk_OJ (bk_OJ bk_J (by decide)) (by decide)) 1 30 ok) mY_X10_nextNumber dX6_readHold_17 ml_X6_102 (tx_o hx) rfl rfl (Nat.le_of_ble_eq_true rfl) ⟨Nat.le_refl _, Nat.le_refl _⟩ rfl ?_
    refine mw_hp ((bk_cm (by decide)).trans (congrArg (fun z => m_bk z 26 21 D N) ((bk_cm (by decide)).trans (congrArg (fun z => m_bk z 25 1 R RL) bk_bk)))) ?_
    refine mw_istore_n [(2, .int (t_num (t_nextS S).1 1 30)), (0, .ref 25), (1, .ref 1)] dX6_readHold_20 (Nat.le_of_ble_eq_true rfl) rfl ?_
    refine mw_iload_n 0 dX6_readHold_21 rfl ?_
    refine mw_iconst (v := -1) dX6_readHold_22 rfl ?_
    refine mw_icmp_ne (tgt := 28) dX6_readHold_23 (by decide) (fun c23 => ?_) (fun c23 => ?_)
    · refine mw_aload_n 1 dX6_readHold_28 rfl ?_
      refine mw_iconst (v := 1) dX6_readHold_29 rfl ?_
      refine mw_puti 6 2 dX6_readHold_30 fl_X6_22 (by decide) (by decide) rfl rfl (rd_o hr) ⟨rfl, rfl⟩ ?_
      refine mw_hp ((bk_so (by decide)).trans (congrArg (fun z => m_bk z 26 21 D N) (bk_si (j := 0) (by decide)))) ?_
      refine mw_aload_n 1 dX6_readHold_33 rfl ?_
      refine mw_getr 6 0 dX6_readHold_34 fl_X6_12 (by decide) (by decide) rfl (rd_o hr) (rd_r0 hr) ?_
      refine mw_getr 5 0 dX6_readHold_37 fl_X6_86 (by decide) (by decide) rfl (pl_o hp) (pl_r0 hp) ?_
      refine mw_bipush (v := 7) dX6_readHold_40 (by decide) ?_
      refine mw_iload_n 0 dX6_readHold_42 rfl ?_
      refine mw_isN 7 dX6_readHold_43 (pl_a0 hp) (by decide) (by decide) (by decide) ?_
      refine mw_hp (bk_si (j := 1) (by decide)) ?_
      refine mw_aload_n 2 dX6_readHold_44 rfl ?_
      refine mw_cS (rest := []) [.ref 1] (c_X6_goOn d (m_bk (m_bk (m_bk h 1 3 ((t_numS (t_nextS S) 1 30).1) ((t_numS (t_nextS S) 1 30).2)) 25 1 (u2 R 0 2 1) RL) 26 21 (u2 D 1 7 (t_num (t_nextS S).1 1 30)) N) (t_numS (t_nextS S) 1 30) hx (bk_O (bk_O bk_I (by decide)) (by decide)) (bk_OJ (bk_OJ bk_J (by decide)) (by decide)) (ok_num (ok_next ok))) mY_X6_goOn dX6_readHold_45 ml_X6_113 rfl rfl (Nat.le_of_ble_eq_true rfl) ⟨Nat.le_refl _, Nat.le_refl _⟩ rfl ?_
      refine mw_hp ((bk_cm (by decide)).trans (congrArg (fun z => m_bk z 26 21 (u2 D 1 7 (t_num (t_nextS S).1 1 30)) N) ((bk_cm (by decide)).trans (congrArg (fun z => m_bk z 25 1 (u2 R 0 2 1) RL) bk_bk)))) ?_
      refine mw_ireturn dX6_readHold_48 rfl rfl ⟨rfl, rfl⟩ ?_
      have e : r_hold S D N R = ((1 : Int32), (t_nextS (t_numS (t_nextS S) 1 30)), (u2 D 1 7 (t_num (t_nextS S).1 1 30)), N, (u2 R 0 2 1)) := by rw [r_hold, if_pos c4, if_neg c23]
      exact ⟨by rw [e], by rw [e]⟩
    · refine mw_iconst (v := 0) dX6_readHold_26 rfl ?_
      refine mw_ireturn dX6_readHold_27 rfl rfl ⟨rfl, rfl⟩ ?_
      have e : r_hold S D N R = ((0 : Int32), (t_numS (t_nextS S) 1 30), D, N, R) := by rw [r_hold, if_pos c4, if_pos c23]
      exact ⟨by rw [e], by rw [e]⟩
  · refine mw_aload_n 1 dX6_readHold_7 rfl ?_
    refine mw_iconst (v := 3) dX6_readHold_8 rfl ?_
    refine mw_cV (rest := []) [.int 3] (cs_wrong (d + 3) (m_bk (m_bk (m_bk h 1 3 S.1 S.2) 25 1 R RL) 26 21 D N) S hx (bk_O (bk_O bk_I (by decide)) (by decide)) (bk_OJ (bk_OJ bk_J (by decide)) (by decide)) 3) mY_X10_wrong dX6_readHold_9 ml_X6_82 (tx_o hx) rfl rfl (Nat.le_of_ble_eq_true rfl) ⟨Nat.le_refl _, Nat.le_refl _⟩ rfl ?_
    refine mw_hp ((bk_cm (by decide)).trans (congrArg (fun z => m_bk z 26 21 D N) ((bk_cm (by decide)).trans (congrArg (fun z => m_bk z 25 1 R RL) bk_bk)))) ?_
    refine mw_ireturn dX6_readHold_12 rfl rfl ⟨rfl, rfl⟩ ?_
    have e : r_hold S D N R = ((0 : Int32), (t_wrongS S 3), D, N, R) := by rw [r_hold, if_neg c4]
    exact ⟨by rw [e], by rw [e]⟩
