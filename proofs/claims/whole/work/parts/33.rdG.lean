def r_pointsBy (S : m_TX) (D : m_V) (N : m_L) (R : m_V) (a b : Int32) : m_RS := (if (t_nameI D N S 1) = (-1) then (((-1) : Int32), (t_nameS D N S 1), D, N, R) else (if (D 4 (((t_nameI D N S 1)).toNatClampNeg)) = a then (((t_nameI D N S 1) : Int32), (t_nameS D N S 1), D, N, R) else (if (D 4 (((t_nameI D N S 1)).toNatClampNeg)) = b then (((t_nameI D N S 1) : Int32), (t_nameS D N S 1), D, N, R) else (((-1) : Int32), (t_wrongS (t_nameS D N S 1) 3), D, N, R))))
set_option maxRecDepth 100000 in
set_option maxHeartbeats 4000000 in
theorem c_X6_readPointsBy (d : Nat) (h : m_H) (S : m_TX) (D : m_V) (N : m_L) (R : m_V) (RL : m_L) (hx : isText h.2.2) (hr : isRead h.2.2) (hp : isPlan h.2.2 26) (hT : blI h 1 3 S.1) (hX : blJ h 1 3 S.2) (hD : blI h 26 21 D) (hDN : blJ h 26 21 N) (hR : blI h 25 1 R) (hRL : blJ h 25 1 RL) (hN : okP D) (ok : okT S.1) (a b : Int32) : MC yX6_readPointsBy cX6_readPointsBy 6 (some .int) (d + 3) 0 0 [.ref 25, .ref 1, .int a, .int b] h (m_r (.int (r_pointsBy S D N R a b).1) (m_bk (m_bk (m_bk h 1 3 (r_pointsBy S D N R a b).2.1.1 (r_pointsBy S D N R a b).2.1.2) 25 1 (r_pointsBy S D N R a b).2.2.2.2 RL) 26 21 (r_pointsBy S D N R a b).2.2.1 (r_pointsBy S D N R a b).2.2.2.1)) := by
  refine mc_of (by decide +kernel) (Nat.le_of_ble_eq_true rfl) ?_
  show MW (yX6_readPointsBy.cls, cX6_readPointsBy, 6, (some .int), yX6_readPointsBy.name, d + 3, 0, 0) 0 (0, 0) [(0, .ref 25), (1, .ref 1), (2, .int a), (3, .int b)] [] h _
  refine mw_hp (bk_self (n := 3) hT hX) ?_
  refine mw_hp (bk_self (n := 1) (bk_O hR (by decide)) (bk_OJ hRL (by decide))) ?_
  refine mw_hp (bk_self (n := 21) (bk_O (bk_O hD (by decide)) (by decide)) (bk_OJ (bk_OJ hDN (by decide)) (by decide))) ?_
  refine mw_aload_n 1 dX6_readPointsBy_0 rfl ?_
  refine mw_aload_n 0 dX6_readPointsBy_1 rfl ?_
  refine mw_getr 6 0 dX6_readPointsBy_2 fl_X6_12 (by decide) (by decide) rfl (rd_o hr) (rd_r0 hr) ?_
  refine mw_iconst (v := 1) dX6_readPointsBy_5 rfl ?_
  refine mw_cV (rest := []) [.ref 26, .int 1] (cs_named d (m_bk (m_bk (m_bk h 1 3 S.1 S.2) 25 1 R RL) 26 21 D N) S hx (bk_O (bk_O bk_I (by decide)) (by decide)) (bk_OJ (bk_OJ bk_J (by decide)) (by decide)) 26 D N hp bk_I bk_J (by decide) 1 _ (by decide) hN.2.1.1 (by have := hN.2.1.2; omega)) mY_X10_named dX6_readPointsBy_6 ml_X6_141 (tx_o hx) rfl rfl (Nat.le_of_ble_eq_true rfl) ⟨Nat.le_refl _, Nat.le_refl _⟩ rfl ?_
  refine mw_hp ((bk_cm (by decide)).trans (congrArg (fun z => m_bk z 26 21 D N) ((bk_cm (by decide)).trans (congrArg (fun z => m_bk z 25 1 R RL) bk_bk)))) ?_
  refine mw_istore [(4, .int (t_nameI D N S 1)), (0, .ref 25), (1, .ref 1), (2, .int a), (3, .int b)] dX6_readPointsBy_9 (Nat.le_of_ble_eq_true rfl) rfl ?_
  refine mw_iload 0 dX6_readPointsBy_11 rfl ?_
  refine mw_iconst (v := -1) dX6_readPointsBy_13 rfl ?_
  refine mw_icmp_ne (tgt := 19) dX6_readPointsBy_14 (by decide) (fun c14 => ?_) (fun c14 => ?_)
  · obtain ⟨q, hq1, hq⟩ := (name_in (P := D) (N := N) (S := S) (s := 1)).resolve_left c14
    have hq2 : ct D 1 ≤ 6 := hN.2.1.2
    refine mw_aload_n 1 dX6_readPointsBy_19 rfl ?_
    refine mw_getr 6 0 dX6_readPointsBy_20 fl_X6_12 (by decide) (by decide) rfl (rd_o hr) (rd_r0 hr) ?_
    refine mw_getr 5 3 dX6_readPointsBy_23 fl_X6_120 (by decide) (by decide) rfl (pl_o hp) (pl_r3 hp) ?_
    refine mw_iload 0 dX6_readPointsBy_26 rfl ?_
    refine mw_iaN (((t_nameI D N S 1)).toNatClampNeg) dX6_readPointsBy_28 (pl_a3 hp) (by rw [hq, nI_clamp (by omega)]; omega) (by decide) (by rw [hq, nI_clamp (by omega)]) ?_
    refine mw_top (x' := (D 4 (((t_nameI D N S 1)).toNatClampNeg))) (bk_I 4 (((t_nameI D N S 1)).toNatClampNeg) (by decide)) ?_
    refine mw_istore [(5, .int (D 4 (((t_nameI D N S 1)).toNatClampNeg))), (4, .int (t_nameI D N S 1)), (0, .ref 25), (1, .ref 1), (2, .int a), (3, .int b)] dX6_readPointsBy_29 (Nat.le_of_ble_eq_true rfl) rfl ?_
    refine mw_iload 0 dX6_readPointsBy_31 rfl ?_
    refine mw_iload_n 4 dX6_readPointsBy_33 rfl ?_
    refine mw_icmp_eq (tgt := 51) dX6_readPointsBy_34 (by decide) (fun c34 => ?_) (fun c34 => ?_)
    · refine mw_iload 1 dX6_readPointsBy_51 rfl ?_
      refine mw_ireturn dX6_readPointsBy_53 rfl rfl ⟨rfl, rfl⟩ ?_
      have e : r_pointsBy S D N R a b = (((t_nameI D N S 1) : Int32), (t_nameS D N S 1), D, N, R) := by rw [r_pointsBy, if_neg c14, if_pos c34]
      exact ⟨by rw [e], by rw [e]⟩
    · refine mw_iload 0 dX6_readPointsBy_37 rfl ?_
      refine mw_iload_n 5 dX6_readPointsBy_39 rfl ?_
      refine mw_icmp_eq (tgt := 51) dX6_readPointsBy_40 (by decide) (fun c40 => ?_) (fun c40 => ?_)
      · refine mw_iload 1 dX6_readPointsBy_51 rfl ?_
        refine mw_ireturn dX6_readPointsBy_53 rfl rfl ⟨rfl, rfl⟩ ?_
        have e : r_pointsBy S D N R a b = (((t_nameI D N S 1) : Int32), (t_nameS D N S 1), D, N, R) := by rw [r_pointsBy, if_neg c14, if_neg c34, if_pos c40]
        exact ⟨by rw [e], by rw [e]⟩
      · refine mw_aload_n 3 dX6_readPointsBy_43 rfl ?_
        refine mw_iconst (v := 3) dX6_readPointsBy_44 rfl ?_
        refine mw_cV (rest := []) [.int 3] (cs_wrong (d + 1) (m_bk (m_bk (m_bk h 1 3 ((t_nameS D N S 1).1) ((t_nameS D N S 1).2)) 25 1 R RL) 26 21 D N) (t_nameS D N S 1) hx (bk_O (bk_O bk_I (by decide)) (by decide)) (bk_OJ (bk_OJ bk_J (by decide)) (by decide)) 3) mY_X10_wrong dX6_readPointsBy_45 ml_X6_82 (tx_o hx) rfl rfl (Nat.le_of_ble_eq_true rfl) ⟨Nat.le_refl _, Nat.le_refl _⟩ rfl ?_
        refine mw_hp ((bk_cm (by decide)).trans (congrArg (fun z => m_bk z 26 21 D N) ((bk_cm (by decide)).trans (congrArg (fun z => m_bk z 25 1 R RL) bk_bk)))) ?_
        refine mw_pop dX6_readPointsBy_48 rfl ?_
        refine mw_iconst (v := -1) dX6_readPointsBy_49 rfl ?_
        refine mw_ireturn dX6_readPointsBy_50 rfl rfl ⟨rfl, rfl⟩ ?_
        have e : r_pointsBy S D N R a b = (((-1) : Int32), (t_wrongS (t_nameS D N S 1) 3), D, N, R) := by rw [r_pointsBy, if_neg c14, if_neg c34, if_neg c40]
        exact ⟨by rw [e], by rw [e]⟩
  · refine mw_iconst (v := -1) dX6_readPointsBy_17 rfl ?_
    refine mw_ireturn dX6_readPointsBy_18 rfl rfl ⟨rfl, rfl⟩ ?_
    have e : r_pointsBy S D N R a b = (((-1) : Int32), (t_nameS D N S 1), D, N, R) := by rw [r_pointsBy, if_pos c14]
    exact ⟨by rw [e], by rw [e]⟩
