def r_lock (S : m_TX) (D : m_V) (N : m_L) (R : m_V) : m_RS := (if (t_nameI D N (t_nextS S) 4) = (-1) then ((0 : Int32), (t_nameS D N (t_nextS S) 4), D, N, R) else (if (t_nameI D N (t_nextS (t_nameS D N (t_nextS S) 4)) 4) = (-1) then ((0 : Int32), (t_nameS D N (t_nextS (t_nameS D N (t_nextS S) 4)) 4), D, N, R) else (if (t_nameI D N (t_nextS S) 4) = (t_nameI D N (t_nextS (t_nameS D N (t_nextS S) 4)) 4) then ((0 : Int32), (t_wrongS (t_nameS D N (t_nextS (t_nameS D N (t_nextS S) 4)) 4) 3), D, N, R) else (if (((D 17 (((t_nameI D N (t_nextS S) 4)).toNatClampNeg)) >>> ((t_nameI D N (t_nextS (t_nameS D N (t_nextS S) 4)) 4) &&& 31)) &&& 1) = 1 then ((0 : Int32), (t_wrongS (t_nameS D N (t_nextS (t_nameS D N (t_nextS S) 4)) 4) 3), D, N, R) else ((1 : Int32), (t_nextS (t_nameS D N (t_nextS (t_nameS D N (t_nextS S) 4)) 4)), (u2 (u2 (u2 D 17 (((t_nameI D N (t_nextS S) 4)).toNatClampNeg) ((D 17 (((t_nameI D N (t_nextS S) 4)).toNatClampNeg)) ||| (1 <<< ((t_nameI D N (t_nextS (t_nameS D N (t_nextS S) 4)) 4) &&& 31)))) 17 (((t_nameI D N (t_nextS (t_nameS D N (t_nextS S) 4)) 4)).toNatClampNeg) (((u2 D 17 (((t_nameI D N (t_nextS S) 4)).toNatClampNeg) ((D 17 (((t_nameI D N (t_nextS S) 4)).toNatClampNeg)) ||| (1 <<< ((t_nameI D N (t_nextS (t_nameS D N (t_nextS S) 4)) 4) &&& 31)))) 17 (((t_nameI D N (t_nextS (t_nameS D N (t_nextS S) 4)) 4)).toNatClampNeg)) ||| (1 <<< ((t_nameI D N (t_nextS S) 4) &&& 31)))) 1 5 ((D 1 5) + 1)), N, R)))))
set_option maxRecDepth 100000 in
set_option maxHeartbeats 4000000 in
theorem c_X6_readLock (d : Nat) (h : m_H) (S : m_TX) (D : m_V) (N : m_L) (R : m_V) (RL : m_L) (hx : isText h.2.2) (hr : isRead h.2.2) (hp : isPlan h.2.2 26) (hT : blI h 1 3 S.1) (hX : blJ h 1 3 S.2) (hD : blI h 26 21 D) (hDN : blJ h 26 21 N) (hR : blI h 25 1 R) (hRL : blJ h 25 1 RL) (hN : okP D) (ok : okT S.1) : MC yX6_readLock cX6_readLock 4 (some .boolean) (d + 5) 0 0 [.ref 25, .ref 1] h (m_r (.int (r_lock S D N R).1) (m_bk (m_bk (m_bk h 1 3 (r_lock S D N R).2.1.1 (r_lock S D N R).2.1.2) 25 1 (r_lock S D N R).2.2.2.2 RL) 26 21 (r_lock S D N R).2.2.1 (r_lock S D N R).2.2.2.1)) := by
  refine mc_of (by decide +kernel) (Nat.le_of_ble_eq_true rfl) ?_
  show MW (yX6_readLock.cls, cX6_readLock, 4, (some .boolean), yX6_readLock.name, d + 5, 0, 0) 0 (0, 0) [(0, .ref 25), (1, .ref 1)] [] h _
  refine mw_hp (bk_self (n := 3) hT hX) ?_
  refine mw_hp (bk_self (n := 1) (bk_O hR (by decide)) (bk_OJ hRL (by decide))) ?_
  refine mw_hp (bk_self (n := 21) (bk_O (bk_O hD (by decide)) (by decide)) (bk_OJ (bk_OJ hDN (by decide)) (by decide))) ?_
  refine mw_aload_n 1 dX6_readLock_0 rfl ?_
  refine mw_aload_n 0 dX6_readLock_1 rfl ?_
  refine mw_getr 6 0 dX6_readLock_2 fl_X6_12 (by decide) (by decide) rfl (rd_o hr) (rd_r0 hr) ?_
  refine mw_iconst (v := 4) dX6_readLock_5 rfl ?_
  refine mw_cV (rest := []) [.ref 26, .int 4] (cs_nextNamed d (m_bk (m_bk (m_bk h 1 3 S.1 S.2) 25 1 R RL) 26 21 D N) S hx (bk_O (bk_O bk_I (by decide)) (by decide)) (bk_OJ (bk_OJ bk_J (by decide)) (by decide)) 26 D N hp bk_I bk_J (by decide) 4 _ (by decide) hN.2.2.2.2.1.1 (by have := hN.2.2.2.2.1.2; omega) ok) mY_X10_nextNamed dX6_readLock_6 ml_X6_116 (tx_o hx) rfl rfl (Nat.le_of_ble_eq_true rfl) ⟨Nat.le_refl _, Nat.le_refl _⟩ rfl ?_
  refine mw_hp ((bk_cm (by decide)).trans (congrArg (fun z => m_bk z 26 21 D N) ((bk_cm (by decide)).trans (congrArg (fun z => m_bk z 25 1 R RL) bk_bk)))) ?_
  refine mw_istore_n [(2, .int (t_nameI D N (t_nextS S) 4)), (0, .ref 25), (1, .ref 1)] dX6_readLock_9 (Nat.le_of_ble_eq_true rfl) rfl ?_
  refine mw_iload_n 0 dX6_readLock_10 rfl ?_
  refine mw_iconst (v := -1) dX6_readLock_11 rfl ?_
  refine mw_icmp_ne (tgt := 19) dX6_readLock_12 (by decide) (fun c12 => ?_) (fun c12 => ?_)
  · obtain ⟨q2, hq21, hq2⟩ := (name_in (P := D) (N := N) (S := (t_nextS S)) (s := 4)).resolve_left c12
    have hl2 : ct D 4 ≤ 10 := hN.2.2.2.2.1.2
    refine mw_aload_n 2 dX6_readLock_19 rfl ?_
    refine mw_aload_n 1 dX6_readLock_20 rfl ?_
    refine mw_getr 6 0 dX6_readLock_21 fl_X6_12 (by decide) (by decide) rfl (rd_o hr) (rd_r0 hr) ?_
    refine mw_iconst (v := 4) dX6_readLock_24 rfl ?_
    refine mw_cV (rest := []) [.ref 26, .int 4] (cs_nextNamed d (m_bk (m_bk (m_bk h 1 3 ((t_nameS D N (t_nextS S) 4).1) ((t_nameS D N (t_nextS S) 4).2)) 25 1 R RL) 26 21 D N) (t_nameS D N (t_nextS S) 4) hx (bk_O (bk_O bk_I (by decide)) (by decide)) (bk_OJ (bk_OJ bk_J (by decide)) (by decide)) 26 D N hp bk_I bk_J (by decide) 4 _ (by decide) hN.2.2.2.2.1.1 (by have := hN.2.2.2.2.1.2; omega) (ok_name (ok_next ok))) mY_X10_nextNamed dX6_readLock_25 ml_X6_116 (tx_o hx) rfl rfl (Nat.le_of_ble_eq_true rfl) ⟨Nat.le_refl _, Nat.le_refl _⟩ rfl ?_
    refine mw_hp ((bk_cm (by decide)).trans (congrArg (fun z => m_bk z 26 21 D N) ((bk_cm (by decide)).trans (congrArg (fun z => m_bk z 25 1 R RL) bk_bk)))) ?_
    refine mw_istore_n [(3, .int (t_nameI D N (t_nextS (t_nameS D N (t_nextS S) 4)) 4)), (2, .int (t_nameI D N (t_nextS S) 4)), (0, .ref 25), (1, .ref 1)] dX6_readLock_28 (Nat.le_of_ble_eq_true rfl) rfl ?_
    refine mw_iload_n 0 dX6_readLock_29 rfl ?_
    refine mw_iconst (v := -1) dX6_readLock_30 rfl ?_
    refine mw_icmp_ne (tgt := 36) dX6_readLock_31 (by decide) (fun c31 => ?_) (fun c31 => ?_)
    · obtain ⟨q3, hq31, hq3⟩ := (name_in (P := D) (N := N) (S := (t_nextS (t_nameS D N (t_nextS S) 4))) (s := 4)).resolve_left c31
      have hl3 : ct D 4 ≤ 10 := hN.2.2.2.2.1.2
      refine mw_iload_n 1 dX6_readLock_36 rfl ?_
      refine mw_iload_n 0 dX6_readLock_37 rfl ?_
      refine mw_icmp_eq (tgt := 58) dX6_readLock_38 (by decide) (fun c38 => ?_) (fun c38 => ?_)
      · refine mw_aload_n 3 dX6_readLock_58 rfl ?_
        refine mw_iconst (v := 3) dX6_readLock_59 rfl ?_
        refine mw_cV (rest := []) [.int 3] (cs_wrong (d + 3) (m_bk (m_bk (m_bk h 1 3 ((t_nameS D N (t_nextS (t_nameS D N (t_nextS S) 4)) 4).1) ((t_nameS D N (t_nextS (t_nameS D N (t_nextS S) 4)) 4).2)) 25 1 R RL) 26 21 D N) (t_nameS D N (t_nextS (t_nameS D N (t_nextS S) 4)) 4) hx (bk_O (bk_O bk_I (by decide)) (by decide)) (bk_OJ (bk_OJ bk_J (by decide)) (by decide)) 3) mY_X10_wrong dX6_readLock_60 ml_X6_82 (tx_o hx) rfl rfl (Nat.le_of_ble_eq_true rfl) ⟨Nat.le_refl _, Nat.le_refl _⟩ rfl ?_
        refine mw_hp ((bk_cm (by decide)).trans (congrArg (fun z => m_bk z 26 21 D N) ((bk_cm (by decide)).trans (congrArg (fun z => m_bk z 25 1 R RL) bk_bk)))) ?_
        refine mw_ireturn dX6_readLock_63 rfl rfl ⟨rfl, rfl⟩ ?_
        have e : r_lock S D N R = ((0 : Int32), (t_wrongS (t_nameS D N (t_nextS (t_nameS D N (t_nextS S) 4)) 4) 3), D, N, R) := by rw [r_lock, if_neg c12, if_neg c31, if_pos c38]
        exact ⟨by rw [e], by rw [e]⟩
      · refine mw_aload_n 2 dX6_readLock_41 rfl ?_
        refine mw_getr 6 0 dX6_readLock_42 fl_X6_12 (by decide) (by decide) rfl (rd_o hr) (rd_r0 hr) ?_
        refine mw_getr 5 16 dX6_readLock_45 fl_X6_180 (by decide) (by decide) rfl (pl_o hp) (pl_r16 hp) ?_
        refine mw_iload_n 1 dX6_readLock_48 rfl ?_
        refine mw_iaN (((t_nameI D N (t_nextS S) 4)).toNatClampNeg) dX6_readLock_49 (pl_a16 hp) (by rw [hq2, nI_clamp (by omega)]; omega) (by decide) (by rw [hq2, nI_clamp (by omega)]) ?_
        refine mw_top (x' := (D 17 (((t_nameI D N (t_nextS S) 4)).toNatClampNeg))) (bk_I 17 (((t_nameI D N (t_nextS S) 4)).toNatClampNeg) (by decide)) ?_
        refine mw_iload_n 0 dX6_readLock_50 rfl ?_
        refine mw_ishr dX6_readLock_51 ?_
        refine mw_iconst (v := 1) dX6_readLock_52 rfl ?_
        refine mw_iand dX6_readLock_53 ?_
        refine mw_iconst (v := 1) dX6_readLock_54 rfl ?_
        refine mw_icmp_ne (tgt := 64) dX6_readLock_55 (by decide) (fun c55 => ?_) (fun c55 => ?_)
        · refine mw_aload_n 2 dX6_readLock_64 rfl ?_
          refine mw_getr 6 0 dX6_readLock_65 fl_X6_12 (by decide) (by decide) rfl (rd_o hr) (rd_r0 hr) ?_
          refine mw_getr 5 16 dX6_readLock_68 fl_X6_180 (by decide) (by decide) rfl (pl_o hp) (pl_r16 hp) ?_
          refine mw_iload_n 1 dX6_readLock_71 rfl ?_
          refine mw_dup2 dX6_readLock_72 rfl rfl ?_
          refine mw_iaN (((t_nameI D N (t_nextS S) 4)).toNatClampNeg) dX6_readLock_73 (pl_a16 hp) (by rw [hq2, nI_clamp (by omega)]; omega) (by decide) (by rw [hq2, nI_clamp (by omega)]) ?_
          refine mw_top (x' := (D 17 (((t_nameI D N (t_nextS S) 4)).toNatClampNeg))) (bk_I 17 (((t_nameI D N (t_nextS S) 4)).toNatClampNeg) (by decide)) ?_
          refine mw_iconst (v := 1) dX6_readLock_74 rfl ?_
          refine mw_iload_n 0 dX6_readLock_75 rfl ?_
          refine mw_ishl dX6_readLock_76 ?_
          refine mw_ior dX6_readLock_77 ?_
          refine mw_isN (((t_nameI D N (t_nextS S) 4)).toNatClampNeg) dX6_readLock_78 (pl_a16 hp) (by rw [hq2, nI_clamp (by omega)]; omega) (by decide) (by rw [hq2, nI_clamp (by omega)]) ?_
          refine mw_hp (bk_si (j := 17) (by decide)) ?_
          refine mw_aload_n 2 dX6_readLock_79 rfl ?_
          refine mw_getr 6 0 dX6_readLock_80 fl_X6_12 (by decide) (by decide) rfl (rd_o hr) (rd_r0 hr) ?_
          refine mw_getr 5 16 dX6_readLock_83 fl_X6_180 (by decide) (by decide) rfl (pl_o hp) (pl_r16 hp) ?_
          refine mw_iload_n 0 dX6_readLock_86 rfl ?_
          refine mw_dup2 dX6_readLock_87 rfl rfl ?_
          refine mw_iaN (((t_nameI D N (t_nextS (t_nameS D N (t_nextS S) 4)) 4)).toNatClampNeg) dX6_readLock_88 (pl_a16 hp) (by rw [hq3, nI_clamp (by omega)]; omega) (by decide) (by rw [hq3, nI_clamp (by omega)]) ?_
          refine mw_top (x' := ((u2 D 17 (((t_nameI D N (t_nextS S) 4)).toNatClampNeg) ((D 17 (((t_nameI D N (t_nextS S) 4)).toNatClampNeg)) ||| (1 <<< ((t_nameI D N (t_nextS (t_nameS D N (t_nextS S) 4)) 4) &&& 31)))) 17 (((t_nameI D N (t_nextS (t_nameS D N (t_nextS S) 4)) 4)).toNatClampNeg))) (bk_I 17 (((t_nameI D N (t_nextS (t_nameS D N (t_nextS S) 4)) 4)).toNatClampNeg) (by decide)) ?_
          refine mw_iconst (v := 1) dX6_readLock_89 rfl ?_
          refine mw_iload_n 1 dX6_readLock_90 rfl ?_
          refine mw_ishl dX6_readLock_91 ?_
          refine mw_ior dX6_readLock_92 ?_
          refine mw_isN (((t_nameI D N (t_nextS (t_nameS D N (t_nextS S) 4)) 4)).toNatClampNeg) dX6_readLock_93 (pl_a16 hp) (by rw [hq3, nI_clamp (by omega)]; omega) (by decide) (by rw [hq3, nI_clamp (by omega)]) ?_
          refine mw_hp (bk_si (j := 17) (by decide)) ?_
          refine mw_aload_n 2 dX6_readLock_94 rfl ?_
          refine mw_getr 6 0 dX6_readLock_95 fl_X6_12 (by decide) (by decide) rfl (rd_o hr) (rd_r0 hr) ?_
          refine mw_getr 5 0 dX6_readLock_98 fl_X6_86 (by decide) (by decide) rfl (pl_o hp) (pl_r0 hp) ?_
          refine mw_iconst (v := 5) dX6_readLock_101 rfl ?_
          refine mw_dup2 dX6_readLock_102 rfl rfl ?_
          refine mw_iaN 5 dX6_readLock_103 (pl_a0 hp) (by decide) (by decide) (by decide) ?_
          refine mw_top (x' := (D 1 5)) (bk_I 1 5 (by decide)) ?_
          refine mw_iconst (v := 1) dX6_readLock_104 rfl ?_
          refine mw_iadd dX6_readLock_105 ?_
          refine mw_isN 5 dX6_readLock_106 (pl_a0 hp) (by decide) (by decide) (by decide) ?_
          refine mw_hp (bk_si (j := 1) (by decide)) ?_
          refine mw_aload_n 3 dX6_readLock_107 rfl ?_
          refine mw_cS (rest := []) [.ref 1] (c_X6_goOn d (m_bk (m_bk (m_bk h 1 3 ((t_nameS D N (t_nextS (t_nameS D N (t_nextS S) 4)) 4).1) ((t_nameS D N (t_nextS (t_nameS D N (t_nextS S) 4)) 4).2)) 25 1 R RL) 26 21 (u2 (u2 (u2 D 17 (((t_nameI D N (t_nextS S) 4)).toNatClampNeg) ((D 17 (((t_nameI D N (t_nextS S) 4)).toNatClampNeg)) ||| (1 <<< ((t_nameI D N (t_nextS (t_nameS D N (t_nextS S) 4)) 4) &&& 31)))) 17 (((t_nameI D N (t_nextS (t_nameS D N (t_nextS S) 4)) 4)).toNatClampNeg) (((u2 D 17 (((t_nameI D N (t_nextS S) 4)).toNatClampNeg) ((D 17 (((t_nameI D N (t_nextS S) 4)).toNatClampNeg)) ||| (1 <<< ((t_nameI D N (t_nextS (t_nameS D N (t_nextS S) 4)) 4) &&& 31)))) 17 (((t_nameI D N (t_nextS (t_nameS D N (t_nextS S) 4)) 4)).toNatClampNeg)) ||| (1 <<< ((t_nameI D N (t_nextS S) 4) &&& 31)))) 1 5 ((D 1 5) + 1)) N) (t_nameS D N (t_nextS (t_nameS D N (t_nextS S) 4)) 4) hx (bk_O (bk_O bk_I (by decide)) (by decide)) (bk_OJ (bk_OJ bk_J (by decide)) (by decide)) (ok_name (ok_next (ok_name (ok_next ok))))) mY_X6_goOn dX6_readLock_108 ml_X6_113 rfl rfl (Nat.le_of_ble_eq_true rfl) ⟨Nat.le_refl _, Nat.le_refl _⟩ rfl ?_
          refine mw_hp ((bk_cm (by decide)).trans (congrArg (fun z => m_bk z 26 21 (u2 (u2 (u2 D 17 (((t_nameI D N (t_nextS S) 4)).toNatClampNeg) ((D 17 (((t_nameI D N (t_nextS S) 4)).toNatClampNeg)) ||| (1 <<< ((t_nameI D N (t_nextS (t_nameS D N (t_nextS S) 4)) 4) &&& 31)))) 17 (((t_nameI D N (t_nextS (t_nameS D N (t_nextS S) 4)) 4)).toNatClampNeg) (((u2 D 17 (((t_nameI D N (t_nextS S) 4)).toNatClampNeg) ((D 17 (((t_nameI D N (t_nextS S) 4)).toNatClampNeg)) ||| (1 <<< ((t_nameI D N (t_nextS (t_nameS D N (t_nextS S) 4)) 4) &&& 31)))) 17 (((t_nameI D N (t_nextS (t_nameS D N (t_nextS S) 4)) 4)).toNatClampNeg)) ||| (1 <<< ((t_nameI D N (t_nextS S) 4) &&& 31)))) 1 5 ((D 1 5) + 1)) N) ((bk_cm (by decide)).trans (congrArg (fun z => m_bk z 25 1 R RL) bk_bk)))) ?_
          refine mw_ireturn dX6_readLock_111 rfl rfl ⟨rfl, rfl⟩ ?_
          have e : r_lock S D N R = ((1 : Int32), (t_nextS (t_nameS D N (t_nextS (t_nameS D N (t_nextS S) 4)) 4)), (u2 (u2 (u2 D 17 (((t_nameI D N (t_nextS S) 4)).toNatClampNeg) ((D 17 (((t_nameI D N (t_nextS S) 4)).toNatClampNeg)) ||| (1 <<< ((t_nameI D N (t_nextS (t_nameS D N (t_nextS S) 4)) 4) &&& 31)))) 17 (((t_nameI D N (t_nextS (t_nameS D N (t_nextS S) 4)) 4)).toNatClampNeg) (((u2 D 17 (((t_nameI D N (t_nextS S) 4)).toNatClampNeg) ((D 17 (((t_nameI D N (t_nextS S) 4)).toNatClampNeg)) ||| (1 <<< ((t_nameI D N (t_nextS (t_nameS D N (t_nextS S) 4)) 4) &&& 31)))) 17 (((t_nameI D N (t_nextS (t_nameS D N (t_nextS S) 4)) 4)).toNatClampNeg)) ||| (1 <<< ((t_nameI D N (t_nextS S) 4) &&& 31)))) 1 5 ((D 1 5) + 1)), N, R) := by rw [r_lock, if_neg c12, if_neg c31, if_neg c38, if_neg c55]
          exact ⟨by rw [e], by rw [e]⟩
        · refine mw_aload_n 3 dX6_readLock_58 rfl ?_
          refine mw_iconst (v := 3) dX6_readLock_59 rfl ?_
          refine mw_cV (rest := []) [.int 3] (cs_wrong (d + 3) (m_bk (m_bk (m_bk h 1 3 ((t_nameS D N (t_nextS (t_nameS D N (t_nextS S) 4)) 4).1) ((t_nameS D N (t_nextS (t_nameS D N (t_nextS S) 4)) 4).2)) 25 1 R RL) 26 21 D N) (t_nameS D N (t_nextS (t_nameS D N (t_nextS S) 4)) 4) hx (bk_O (bk_O bk_I (by decide)) (by decide)) (bk_OJ (bk_OJ bk_J (by decide)) (by decide)) 3) mY_X10_wrong dX6_readLock_60 ml_X6_82 (tx_o hx) rfl rfl (Nat.le_of_ble_eq_true rfl) ⟨Nat.le_refl _, Nat.le_refl _⟩ rfl ?_
          refine mw_hp ((bk_cm (by decide)).trans (congrArg (fun z => m_bk z 26 21 D N) ((bk_cm (by decide)).trans (congrArg (fun z => m_bk z 25 1 R RL) bk_bk)))) ?_
          refine mw_ireturn dX6_readLock_63 rfl rfl ⟨rfl, rfl⟩ ?_
          have e : r_lock S D N R = ((0 : Int32), (t_wrongS (t_nameS D N (t_nextS (t_nameS D N (t_nextS S) 4)) 4) 3), D, N, R) := by rw [r_lock, if_neg c12, if_neg c31, if_neg c38, if_pos c55]
          exact ⟨by rw [e], by rw [e]⟩
    · refine mw_iconst (v := 0) dX6_readLock_34 rfl ?_
      refine mw_ireturn dX6_readLock_35 rfl rfl ⟨rfl, rfl⟩ ?_
      have e : r_lock S D N R = ((0 : Int32), (t_nameS D N (t_nextS (t_nameS D N (t_nextS S) 4)) 4), D, N, R) := by rw [r_lock, if_neg c12, if_pos c31]
      exact ⟨by rw [e], by rw [e]⟩
  · refine mw_iconst (v := -1) dX6_readLock_15 rfl ?_
    refine mw_goto (tgt := 28) dX6_readLock_16 (by decide) ?_
    refine mw_istore_n [(3, .int (-1)), (2, .int (t_nameI D N (t_nextS S) 4)), (0, .ref 25), (1, .ref 1)] dX6_readLock_28 (Nat.le_of_ble_eq_true rfl) rfl ?_
    refine mw_iload_n 0 dX6_readLock_29 rfl ?_
    refine mw_iconst (v := -1) dX6_readLock_30 rfl ?_
    refine mw_icmp_ne (tgt := 36) dX6_readLock_31 (by decide) (fun c31 => ?_) (fun c31 => ?_)
    · exact absurd c31 (by decide)
    · refine mw_iconst (v := 0) dX6_readLock_34 rfl ?_
      refine mw_ireturn dX6_readLock_35 rfl rfl ⟨rfl, rfl⟩ ?_
      have e : r_lock S D N R = ((0 : Int32), (t_nameS D N (t_nextS S) 4), D, N, R) := by rw [r_lock, if_pos c12]
      exact ⟨by rw [e], by rw [e]⟩
