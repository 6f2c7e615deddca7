def r_over (S : m_TX) (D : m_V) (N : m_L) (R : m_V) : m_RS := (if (t_nameI D N (t_nextS S) 4) = (-1) then ((0 : Int32), (t_nameS D N (t_nextS S) 4), D, N, R) else (if (D 12 ((t_nameI D N (t_nextS S) 4).toNatClampNeg)) < 6 then (if (t_nameI D N (t_nextS (t_nameS D N (t_nextS S) 4)) 0) = (-1) then ((0 : Int32), (t_nameS D N (t_nextS (t_nameS D N (t_nextS S) 4)) 0), D, N, R) else (if (r_can D ((t_nameI D N (t_nextS S) 4).toNatClampNeg) (t_nameI D N (t_nextS (t_nameS D N (t_nextS S) 4)) 0)) = 0 then ((0 : Int32), (t_wrongS (t_nameS D N (t_nextS (t_nameS D N (t_nextS S) 4)) 0) 3), D, N, R) else ((1 : Int32), (t_nextS (t_nameS D N (t_nextS (t_nameS D N (t_nextS S) 4)) 0)), (r_addOver D ((t_nameI D N (t_nextS S) 4).toNatClampNeg) (t_nameI D N (t_nextS (t_nameS D N (t_nextS S) 4)) 0)), N, R))) else ((0 : Int32), (t_wrongS (t_nameS D N (t_nextS S) 4) 4), D, N, R)))
set_option maxRecDepth 100000 in
set_option maxHeartbeats 4000000 in
theorem c_X6_readOver (d : Nat) (h : m_H) (S : m_TX) (D : m_V) (N : m_L) (R : m_V) (RL : m_L) (hx : isText h.2.2) (hr : isRead h.2.2) (hp : isPlan h.2.2 26) (hT : blI h 1 3 S.1) (hX : blJ h 1 3 S.2) (hD : blI h 26 21 D) (hDN : blJ h 26 21 N) (hR : blI h 25 1 R) (hRL : blJ h 25 1 RL) (hN : okP D) (ok : okT S.1) (hW : ∀ r, r < ct D 4 → (∃ g, D 11 r = nI g ∧ g < 8) ∧ ∃ k, D 12 r = nI k ∧ k ≤ 6) : MC yX6_readOver cX6_readOver 4 (some .boolean) (d + 5) 0 0 [.ref 25, .ref 1] h (m_r (.int (r_over S D N R).1) (m_bk (m_bk (m_bk h 1 3 (r_over S D N R).2.1.1 (r_over S D N R).2.1.2) 25 1 (r_over S D N R).2.2.2.2 RL) 26 21 (r_over S D N R).2.2.1 (r_over S D N R).2.2.2.1)) := by
  refine mc_of (by decide +kernel) (Nat.le_of_ble_eq_true rfl) ?_
  show MW (yX6_readOver.cls, cX6_readOver, 4, (some .boolean), yX6_readOver.name, d + 5, 0, 0) 0 (0, 0) [(0, .ref 25), (1, .ref 1)] [] h _
  refine mw_hp (bk_self (n := 3) hT hX) ?_
  refine mw_hp (bk_self (n := 1) (bk_O hR (by decide)) (bk_OJ hRL (by decide))) ?_
  refine mw_hp (bk_self (n := 21) (bk_O (bk_O hD (by decide)) (by decide)) (bk_OJ (bk_OJ hDN (by decide)) (by decide))) ?_
  refine mw_aload_n 1 dX6_readOver_0 rfl ?_
  refine mw_aload_n 0 dX6_readOver_1 rfl ?_
  refine mw_getr 6 0 dX6_readOver_2 fl_X6_12 (by decide) (by decide) rfl (rd_o hr) (rd_r0 hr) ?_
  refine mw_iconst (v := 4) dX6_readOver_5 rfl ?_
  refine mw_cV (rest := []) [.ref 26, .int 4] (cs_nextNamed d (m_bk (m_bk (m_bk h 1 3 S.1 S.2) 25 1 R RL) 26 21 D N) S hx (bk_O (bk_O bk_I (by decide)) (by decide)) (bk_OJ (bk_OJ bk_J (by decide)) (by decide)) 26 D N hp bk_I bk_J (by decide) 4 _ (by decide) hN.2.2.2.2.1.1 (by have := hN.2.2.2.2.1.2; omega) ok) mY_X10_nextNamed dX6_readOver_6 ml_X6_116 (tx_o hx) rfl rfl (Nat.le_of_ble_eq_true rfl) ⟨Nat.le_refl _, Nat.le_refl _⟩ rfl ?_
  refine mw_hp ((bk_cm (by decide)).trans (congrArg (fun z => m_bk z 26 21 D N) ((bk_cm (by decide)).trans (congrArg (fun z => m_bk z 25 1 R RL) bk_bk)))) ?_
  refine mw_istore_n [(2, .int (t_nameI D N (t_nextS S) 4)), (0, .ref 25), (1, .ref 1)] dX6_readOver_9 (Nat.le_of_ble_eq_true rfl) rfl ?_
  refine mw_iload_n 0 dX6_readOver_10 rfl ?_
  refine mw_iconst (v := -1) dX6_readOver_11 rfl ?_
  refine mw_icmp_ne (tgt := 17) dX6_readOver_12 (by decide) (fun c12 => ?_) (fun c12 => ?_)
  · obtain ⟨q2, hq21, hq2⟩ := (name_in (P := D) (N := N) (S := t_nextS S) (s := 4)).resolve_left c12
    have hl2 : ct D 4 ≤ 10 := hN.2.2.2.2.1.2
    have hQ : (t_nameI D N (t_nextS S) 4).toNatClampNeg = q2 := by rw [hq2, nI_clamp (by omega)]
    obtain ⟨⟨g, hg, hg8⟩, ⟨k, hk, hk6⟩⟩ := hW q2 hq21
    rw [← hQ] at hg hk
    refine mw_aload_n 1 dX6_readOver_17 rfl ?_
    refine mw_getr 6 0 dX6_readOver_18 fl_X6_12 (by decide) (by decide) rfl (rd_o hr) (rd_r0 hr) ?_
    refine mw_getr 5 11 dX6_readOver_21 fl_X6_168 (by decide) (by decide) rfl (pl_o hp) (pl_r11 hp) ?_
    refine mw_iload_n 0 dX6_readOver_24 rfl ?_
    refine mw_iaN ((t_nameI D N (t_nextS S) 4).toNatClampNeg) dX6_readOver_25 (pl_a11 hp) (by omega) (by decide) (by rw [hQ]; exact hq2) ?_
    refine mw_top (x' := (D 12 ((t_nameI D N (t_nextS S) 4).toNatClampNeg))) (bk_I 12 ((t_nameI D N (t_nextS S) 4).toNatClampNeg) (by decide)) ?_
    refine mw_bipush (v := 6) dX6_readOver_26 (by decide) ?_
    refine mw_icmp_lt (tgt := 37) dX6_readOver_28 (by decide) (fun c28 => ?_) (fun c28 => ?_)
    · have hk5 : k < 6 := (nI_ltI (by omega) (by omega)).mp (by rw [← hk]; exact c28)
      refine mw_aload_n 2 dX6_readOver_37 rfl ?_
      refine mw_aload_n 1 dX6_readOver_38 rfl ?_
      refine mw_getr 6 0 dX6_readOver_39 fl_X6_12 (by decide) (by decide) rfl (rd_o hr) (rd_r0 hr) ?_
      refine mw_iconst (v := 0) dX6_readOver_42 rfl ?_
      refine mw_cV (rest := []) [.ref 26, .int 0] (cs_nextNamed d (m_bk (m_bk (m_bk h 1 3 ((t_nameS D N (t_nextS S) 4).1) ((t_nameS D N (t_nextS S) 4).2)) 25 1 R RL) 26 21 D N) (t_nameS D N (t_nextS S) 4) hx (bk_O (bk_O bk_I (by decide)) (by decide)) (bk_OJ (bk_OJ bk_J (by decide)) (by decide)) 26 D N hp bk_I bk_J (by decide) 0 _ (by decide) hN.1.1 hN.1.2 (ok_name (ok_next ok))) mY_X10_nextNamed dX6_readOver_43 ml_X6_116 (tx_o hx) rfl rfl (Nat.le_of_ble_eq_true rfl) ⟨Nat.le_refl _, Nat.le_refl _⟩ rfl ?_
      refine mw_hp ((bk_cm (by decide)).trans (congrArg (fun z => m_bk z 26 21 D N) ((bk_cm (by decide)).trans (congrArg (fun z => m_bk z 25 1 R RL) bk_bk)))) ?_
      refine mw_istore_n [(3, .int (t_nameI D N (t_nextS (t_nameS D N (t_nextS S) 4)) 0)), (2, .int (t_nameI D N (t_nextS S) 4)), (0, .ref 25), (1, .ref 1)] dX6_readOver_46 (Nat.le_of_ble_eq_true rfl) rfl ?_
      refine mw_iload_n 0 dX6_readOver_47 rfl ?_
      refine mw_iconst (v := -1) dX6_readOver_48 rfl ?_
      refine mw_icmp_ne (tgt := 54) dX6_readOver_49 (by decide) (fun c49 => ?_) (fun c49 => ?_)
      · refine mw_aload_n 2 dX6_readOver_54 rfl ?_
        refine mw_iload_n 1 dX6_readOver_55 rfl ?_
        refine mw_top (x' := (nI ((t_nameI D N (t_nextS S) 4).toNatClampNeg))) (by rw [hQ]; exact hq2) ?_
        refine mw_iload_n 0 dX6_readOver_56 rfl ?_
        refine mw_cV (rest := []) [.int (nI ((t_nameI D N (t_nextS S) 4).toNatClampNeg)), .int (t_nameI D N (t_nextS (t_nameS D N (t_nextS S) 4)) 0)] (c_X6_canGoOver (d + 1) (m_bk (m_bk (m_bk h 1 3 ((t_nameS D N (t_nextS (t_nameS D N (t_nextS S) 4)) 0).1) ((t_nameS D N (t_nextS (t_nameS D N (t_nextS S) 4)) 0).2)) 25 1 R RL) 26 21 D N) D N hr hp bk_I bk_J hN ((t_nameI D N (t_nextS S) 4).toNatClampNeg) g k (t_nameI D N (t_nextS (t_nameS D N (t_nextS S) 4)) 0) (by omega) hg hg8 hk hk6) mY_X6_canGoOver dX6_readOver_57 ml_X6_183 (rd_o hr) rfl rfl (Nat.le_of_ble_eq_true rfl) ⟨Nat.le_refl _, Nat.le_refl _⟩ rfl ?_
        refine mw_if_ne (tgt := 69) dX6_readOver_60 (by decide) (fun c60 => ?_) (fun c60 => ?_)
        · refine mw_aload_n 2 dX6_readOver_69 rfl ?_
          refine mw_iload_n 1 dX6_readOver_70 rfl ?_
          refine mw_top (x' := (nI ((t_nameI D N (t_nextS S) 4).toNatClampNeg))) (by rw [hQ]; exact hq2) ?_
          refine mw_iload_n 0 dX6_readOver_71 rfl ?_
          refine mw_cVv (rest := []) [.int (nI ((t_nameI D N (t_nextS S) 4).toNatClampNeg)), .int (t_nameI D N (t_nextS (t_nameS D N (t_nextS S) 4)) 0)] (c_X6_addOver (d + 1) (m_bk (m_bk (m_bk h 1 3 ((t_nameS D N (t_nextS (t_nameS D N (t_nextS S) 4)) 0).1) ((t_nameS D N (t_nextS (t_nameS D N (t_nextS S) 4)) 0).2)) 25 1 R RL) 26 21 D N) D N hr hp bk_I bk_J hN ((t_nameI D N (t_nextS S) 4).toNatClampNeg) g k (t_nameI D N (t_nextS (t_nameS D N (t_nextS S) 4)) 0) (by omega) hg hg8 hk hk6 hk5) mY_X6_addOver dX6_readOver_72 ml_X6_187 (rd_o hr) rfl rfl (Nat.le_of_ble_eq_true rfl) ⟨Nat.le_refl _, Nat.le_refl _⟩ rfl ?_
          refine mw_hp bk_bk ?_
          refine mw_aload_n 3 dX6_readOver_75 rfl ?_
          refine mw_cS (rest := []) [.ref 1] (c_X6_goOn d (m_bk (m_bk (m_bk h 1 3 ((t_nameS D N (t_nextS (t_nameS D N (t_nextS S) 4)) 0).1) ((t_nameS D N (t_nextS (t_nameS D N (t_nextS S) 4)) 0).2)) 25 1 R RL) 26 21 (r_addOver D ((t_nameI D N (t_nextS S) 4).toNatClampNeg) (t_nameI D N (t_nextS (t_nameS D N (t_nextS S) 4)) 0)) N) (t_nameS D N (t_nextS (t_nameS D N (t_nextS S) 4)) 0) hx (bk_O (bk_O bk_I (by decide)) (by decide)) (bk_OJ (bk_OJ bk_J (by decide)) (by decide)) (ok_name (ok_next (ok_name (ok_next ok))))) mY_X6_goOn dX6_readOver_76 ml_X6_113 rfl rfl (Nat.le_of_ble_eq_true rfl) ⟨Nat.le_refl _, Nat.le_refl _⟩ rfl ?_
          refine mw_hp ((bk_cm (by decide)).trans (congrArg (fun z => m_bk z 26 21 (r_addOver D ((t_nameI D N (t_nextS S) 4).toNatClampNeg) (t_nameI D N (t_nextS (t_nameS D N (t_nextS S) 4)) 0)) N) ((bk_cm (by decide)).trans (congrArg (fun z => m_bk z 25 1 R RL) bk_bk)))) ?_
          refine mw_ireturn dX6_readOver_79 rfl rfl ⟨rfl, rfl⟩ ?_
          have e : r_over S D N R = ((1 : Int32), (t_nextS (t_nameS D N (t_nextS (t_nameS D N (t_nextS S) 4)) 0)), (r_addOver D ((t_nameI D N (t_nextS S) 4).toNatClampNeg) (t_nameI D N (t_nextS (t_nameS D N (t_nextS S) 4)) 0)), N, R) := by rw [r_over, if_neg c12, if_pos c28, if_neg c49, if_neg c60]
          exact ⟨by rw [e], by rw [e]⟩
        · refine mw_aload_n 3 dX6_readOver_63 rfl ?_
          refine mw_iconst (v := 3) dX6_readOver_64 rfl ?_
          refine mw_cV (rest := []) [.int 3] (cs_wrong (d + 3) (m_bk (m_bk (m_bk h 1 3 ((t_nameS D N (t_nextS (t_nameS D N (t_nextS S) 4)) 0).1) ((t_nameS D N (t_nextS (t_nameS D N (t_nextS S) 4)) 0).2)) 25 1 R RL) 26 21 D N) (t_nameS D N (t_nextS (t_nameS D N (t_nextS S) 4)) 0) hx (bk_O (bk_O bk_I (by decide)) (by decide)) (bk_OJ (bk_OJ bk_J (by decide)) (by decide)) 3) mY_X10_wrong dX6_readOver_65 ml_X6_82 (tx_o hx) rfl rfl (Nat.le_of_ble_eq_true rfl) ⟨Nat.le_refl _, Nat.le_refl _⟩ rfl ?_
          refine mw_hp ((bk_cm (by decide)).trans (congrArg (fun z => m_bk z 26 21 D N) ((bk_cm (by decide)).trans (congrArg (fun z => m_bk z 25 1 R RL) bk_bk)))) ?_
          refine mw_ireturn dX6_readOver_68 rfl rfl ⟨rfl, rfl⟩ ?_
          have e : r_over S D N R = ((0 : Int32), (t_wrongS (t_nameS D N (t_nextS (t_nameS D N (t_nextS S) 4)) 0) 3), D, N, R) := by rw [r_over, if_neg c12, if_pos c28, if_neg c49, if_pos c60]
          exact ⟨by rw [e], by rw [e]⟩
      · refine mw_iconst (v := 0) dX6_readOver_52 rfl ?_
        refine mw_ireturn dX6_readOver_53 rfl rfl ⟨rfl, rfl⟩ ?_
        have e : r_over S D N R = ((0 : Int32), (t_nameS D N (t_nextS (t_nameS D N (t_nextS S) 4)) 0), D, N, R) := by rw [r_over, if_neg c12, if_pos c28, if_pos c49]
        exact ⟨by rw [e], by rw [e]⟩
    · refine mw_aload_n 2 dX6_readOver_31 rfl ?_
      refine mw_iconst (v := 4) dX6_readOver_32 rfl ?_
      refine mw_cV (rest := []) [.int 4] (cs_wrong (d + 3) (m_bk (m_bk (m_bk h 1 3 ((t_nameS D N (t_nextS S) 4).1) ((t_nameS D N (t_nextS S) 4).2)) 25 1 R RL) 26 21 D N) (t_nameS D N (t_nextS S) 4) hx (bk_O (bk_O bk_I (by decide)) (by decide)) (bk_OJ (bk_OJ bk_J (by decide)) (by decide)) 4) mY_X10_wrong dX6_readOver_33 ml_X6_82 (tx_o hx) rfl rfl (Nat.le_of_ble_eq_true rfl) ⟨Nat.le_refl _, Nat.le_refl _⟩ rfl ?_
      refine mw_hp ((bk_cm (by decide)).trans (congrArg (fun z => m_bk z 26 21 D N) ((bk_cm (by decide)).trans (congrArg (fun z => m_bk z 25 1 R RL) bk_bk)))) ?_
      refine mw_ireturn dX6_readOver_36 rfl rfl ⟨rfl, rfl⟩ ?_
      have e : r_over S D N R = ((0 : Int32), (t_wrongS (t_nameS D N (t_nextS S) 4) 4), D, N, R) := by rw [r_over, if_neg c12, if_neg c28]
      exact ⟨by rw [e], by rw [e]⟩
  · refine mw_iconst (v := 0) dX6_readOver_15 rfl ?_
    refine mw_ireturn dX6_readOver_16 rfl rfl ⟨rfl, rfl⟩ ?_
    have e : r_over S D N R = ((0 : Int32), (t_nameS D N (t_nextS S) 4), D, N, R) := by rw [r_over, if_pos c12]
    exact ⟨by rw [e], by rw [e]⟩
