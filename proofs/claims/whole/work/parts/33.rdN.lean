def r_train (S : m_TX) (D : m_V) (N : m_L) (R : m_V) : m_RS := (if (r_hasRoom S D N R 6 5).1 = 0 then ((0 : Int32), ((r_hasRoom S D N R 6 5).2.1), D, N, R) else (if (t_newI D N (t_nextS ((r_hasRoom S D N R 6 5).2.1))) = 0 then ((0 : Int32), (t_newS D N (t_nextS ((r_hasRoom S D N R 6 5).2.1))), D, N, R) else (if (t_nameI D N (t_nextS (t_newS D N (t_nextS ((r_hasRoom S D N R 6 5).2.1)))) 0) = (-1) then ((0 : Int32), (t_nameS D N (t_nextS (t_newS D N (t_nextS ((r_hasRoom S D N R 6 5).2.1)))) 0), D, N, R) else (if an (fun t => decide (D 19 t = (t_nameI D N (t_nextS (t_newS D N (t_nextS ((r_hasRoom S D N R 6 5).2.1)))) 0))) (ct D 6) = true then ((0 : Int32), (t_wrongS (t_nameS D N (t_nextS (t_newS D N (t_nextS ((r_hasRoom S D N R 6 5).2.1)))) 0) 3), D, N, R) else (if (t_two (t_nextS (t_nameS D N (t_nextS (t_newS D N (t_nextS ((r_hasRoom S D N R 6 5).2.1)))) 0)).1 11) = (-1) then ((0 : Int32), (t_twoS (t_nextS (t_nameS D N (t_nextS (t_newS D N (t_nextS ((r_hasRoom S D N R 6 5).2.1)))) 0)) 11), D, N, R) else ((1 : Int32), (t_nextS (t_twoS (t_nextS (t_nameS D N (t_nextS (t_newS D N (t_nextS ((r_hasRoom S D N R 6 5).2.1)))) 0)) 11)), (u2 (u2 (u2 D 1 6 (nI (ct D 6 + 1))) 19 (ct D 6) (t_nameI D N (t_nextS (t_newS D N (t_nextS ((r_hasRoom S D N R 6 5).2.1)))) 0)) 20 (ct D 6) (t_two (t_nextS (t_nameS D N (t_nextS (t_newS D N (t_nextS ((r_hasRoom S D N R 6 5).2.1)))) 0)).1 11)), (u2l N 2 (6 * 12 + ct D 6) (((t_newS D N (t_nextS ((r_hasRoom S D N R 6 5).2.1))).2) 0 7)), R))))))
set_option maxRecDepth 100000 in
set_option maxHeartbeats 4000000 in
theorem c_X6_readTrain (d : Nat) (h : m_H) (S : m_TX) (D : m_V) (N : m_L) (R : m_V) (RL : m_L) (hx : isText h.2.2) (hr : isRead h.2.2) (hp : isPlan h.2.2 26) (hT : blI h 1 3 S.1) (hX : blJ h 1 3 S.2) (hD : blI h 26 21 D) (hDN : blJ h 26 21 N) (hR : blI h 25 1 R) (hRL : blJ h 25 1 RL) (hN : okP D) (ok : okT S.1) : MC yX6_readTrain cX6_readTrain 7 (some .boolean) (d + 5) 0 0 [.ref 25, .ref 1] h (m_r (.int (r_train S D N R).1) (m_bk (m_bk (m_bk h 1 3 (r_train S D N R).2.1.1 (r_train S D N R).2.1.2) 25 1 (r_train S D N R).2.2.2.2 RL) 26 21 (r_train S D N R).2.2.1 (r_train S D N R).2.2.2.1)) := by
  refine mc_of (by decide +kernel) (Nat.le_of_ble_eq_true rfl) ?_
  show MW (yX6_readTrain.cls, cX6_readTrain, 7, (some .boolean), yX6_readTrain.name, d + 5, 0, 0) 0 (0, 0) [(0, .ref 25), (1, .ref 1)] [] h _
  refine mw_hp (bk_self (n := 3) hT hX) ?_
  refine mw_hp (bk_self (n := 1) (bk_O hR (by decide)) (bk_OJ hRL (by decide))) ?_
  refine mw_hp (bk_self (n := 21) (bk_O (bk_O hD (by decide)) (by decide)) (bk_OJ (bk_OJ hDN (by decide)) (by decide))) ?_
  refine mw_aload_n 0 dX6_readTrain_0 rfl ?_
  refine mw_aload_n 1 dX6_readTrain_1 rfl ?_
  refine mw_bipush (v := 6) dX6_readTrain_2 (by decide) ?_
  refine mw_iconst (v := 5) dX6_readTrain_4 rfl ?_
  refine mw_cV (rest := []) [.ref 1, .int 6, .int 5] (c_X6_hasRoom (d + 2) (m_bk (m_bk (m_bk h 1 3 S.1 S.2) 25 1 R RL) 26 21 D N) S _ _ _ _ hx hr hp (bk_O (bk_O bk_I (by decide)) (by decide)) (bk_OJ (bk_OJ bk_J (by decide)) (by decide)) bk_I bk_J (bk_O bk_I (by decide)) (bk_OJ bk_J (by decide)) hN ok 6 5 (by decide)) mY_X6_hasRoom dX6_readTrain_5 ml_X6_90 (rd_o hr) rfl rfl (Nat.le_of_ble_eq_true rfl) ⟨Nat.le_refl _, Nat.le_refl _⟩ rfl ?_
  refine mw_hp (h' := (m_bk (m_bk (m_bk h 1 3 (((r_hasRoom S D N R 6 5).2.1).1) (((r_hasRoom S D N R 6 5).2.1).2)) 25 1 R RL) 26 21 D N)) (room_heap ) ?_
  refine mw_if_eq (tgt := 22) dX6_readTrain_8 (by decide) (fun c8 => ?_) (fun c8 => ?_)
  · refine mw_iconst (v := 0) dX6_readTrain_22 rfl ?_
    refine mw_ireturn dX6_readTrain_23 rfl rfl ⟨rfl, rfl⟩ ?_
    have e : r_train S D N R = ((0 : Int32), ((r_hasRoom S D N R 6 5).2.1), D, N, R) := by rw [r_train, if_pos c8]
    exact ⟨by rw [e], by rw [e]⟩
  · have hlt : ct D 6 < 5 := room_lt c8 hN.2.2.2.2.2.1 (by have := hN.2.2.2.2.2.2; omega) (by decide)
    refine mw_aload_n 1 dX6_readTrain_11 rfl ?_
    refine mw_aload_n 0 dX6_readTrain_12 rfl ?_
    refine mw_getr 6 0 dX6_readTrain_13 fl_X6_12 (by decide) (by decide) rfl (rd_o hr) (rd_r0 hr) ?_
    refine mw_cV (rest := []) [.ref 26] (cs_nextNewName d (m_bk (m_bk (m_bk h 1 3 (((r_hasRoom S D N R 6 5).2.1).1) (((r_hasRoom S D N R 6 5).2.1).2)) 25 1 R RL) 26 21 D N) ((r_hasRoom S D N R 6 5).2.1) hx (bk_O (bk_O bk_I (by decide)) (by decide)) (bk_OJ (bk_OJ bk_J (by decide)) (by decide)) 26 D N hp bk_I bk_J (by decide) hN (ok_room ok)) mY_X10_nextNewName dX6_readTrain_16 ml_X6_94 (tx_o hx) rfl rfl (Nat.le_of_ble_eq_true rfl) ⟨Nat.le_refl _, Nat.le_refl _⟩ rfl ?_
    refine mw_hp ((bk_cm (by decide)).trans (congrArg (fun z => m_bk z 26 21 D N) ((bk_cm (by decide)).trans (congrArg (fun z => m_bk z 25 1 R RL) bk_bk)))) ?_
    refine mw_if_ne (tgt := 24) dX6_readTrain_19 (by decide) (fun c19 => ?_) (fun c19 => ?_)
    · refine mw_aload_n 1 dX6_readTrain_24 rfl ?_
      refine mw_getl 10 7 dX6_readTrain_25 fl_X6_98 (by decide) (by decide) rfl (tx_o hx) ?_
      refine mw_topl (x' := (((t_newS D N (t_nextS ((r_hasRoom S D N R 6 5).2.1))).2) 0 7)) ((bk_OJ (bk_OJ bk_J (by decide)) (by decide)) 0 7 (by decide)) ?_
      refine mw_lstore_n [(2, .long (((t_newS D N (t_nextS ((r_hasRoom S D N R 6 5).2.1))).2) 0 7)), (0, .ref 25), (1, .ref 1)] dX6_readTrain_28 (Nat.le_of_ble_eq_true rfl) rfl ?_
      refine mw_aload_n 2 dX6_readTrain_29 rfl ?_
      refine mw_aload_n 1 dX6_readTrain_30 rfl ?_
      refine mw_getr 6 0 dX6_readTrain_31 fl_X6_12 (by decide) (by decide) rfl (rd_o hr) (rd_r0 hr) ?_
      refine mw_iconst (v := 0) dX6_readTrain_34 rfl ?_
      refine mw_cV (rest := []) [.ref 26, .int 0] (cs_nextNamed d (m_bk (m_bk (m_bk h 1 3 ((t_newS D N (t_nextS ((r_hasRoom S D N R 6 5).2.1))).1) ((t_newS D N (t_nextS ((r_hasRoom S D N R 6 5).2.1))).2)) 25 1 R RL) 26 21 D N) (t_newS D N (t_nextS ((r_hasRoom S D N R 6 5).2.1))) hx (bk_O (bk_O bk_I (by decide)) (by decide)) (bk_OJ (bk_OJ bk_J (by decide)) (by decide)) 26 D N hp bk_I bk_J (by decide) 0 _ (by decide) hN.1.1 hN.1.2 (ok_new (ok_next (ok_room ok)))) mY_X10_nextNamed dX6_readTrain_35 ml_X6_116 (tx_o hx) rfl rfl (Nat.le_of_ble_eq_true rfl) ⟨Nat.le_refl _, Nat.le_refl _⟩ rfl ?_
      refine mw_hp ((bk_cm (by decide)).trans (congrArg (fun z => m_bk z 26 21 D N) ((bk_cm (by decide)).trans (congrArg (fun z => m_bk z 25 1 R RL) bk_bk)))) ?_
      refine mw_istore [(4, .int (t_nameI D N (t_nextS (t_newS D N (t_nextS ((r_hasRoom S D N R 6 5).2.1)))) 0)), (2, .long (((t_newS D N (t_nextS ((r_hasRoom S D N R 6 5).2.1))).2) 0 7)), (0, .ref 25), (1, .ref 1)] dX6_readTrain_38 (Nat.le_of_ble_eq_true rfl) rfl ?_
      refine mw_iload 0 dX6_readTrain_40 rfl ?_
      refine mw_iconst (v := -1) dX6_readTrain_42 rfl ?_
      refine mw_icmp_ne (tgt := 48) dX6_readTrain_43 (by decide) (fun c43 => ?_) (fun c43 => ?_)
      · refine mw_iconst (v := 0) dX6_readTrain_48 rfl ?_
        refine mw_istore [(5, .int 0), (4, .int (t_nameI D N (t_nextS (t_newS D N (t_nextS ((r_hasRoom S D N R 6 5).2.1)))) 0)), (2, .long (((t_newS D N (t_nextS ((r_hasRoom S D N R 6 5).2.1))).2) 0 7)), (0, .ref 25), (1, .ref 1)] dX6_readTrain_49 (Nat.le_of_ble_eq_true rfl) rfl ?_
        have L51 : ∀ (m51 : Nat) (i : Nat), (i ≤ ct D 6) → (an (fun t => decide (D 19 t = (t_nameI D N (t_nextS (t_newS D N (t_nextS ((r_hasRoom S D N R 6 5).2.1)))) 0))) i = false) → ct D 6 - i < m51 → MW (yX6_readTrain.cls, cX6_readTrain, 7, (some .boolean), yX6_readTrain.name, d + 5, 0, 0) 51 (0, 0) [(5, .int (nI i)), (4, .int (t_nameI D N (t_nextS (t_newS D N (t_nextS ((r_hasRoom S D N R 6 5).2.1)))) 0)), (2, .long (((t_newS D N (t_nextS ((r_hasRoom S D N R 6 5).2.1))).2) 0 7)), (0, .ref 25), (1, .ref 1)] [] (m_bk (m_bk (m_bk h 1 3 ((t_nameS D N (t_nextS (t_newS D N (t_nextS ((r_hasRoom S D N R 6 5).2.1)))) 0).1) ((t_nameS D N (t_nextS (t_newS D N (t_nextS ((r_hasRoom S D N R 6 5).2.1)))) 0).2)) 25 1 R RL) 26 21 D N) (m_r (.int (r_train S D N R).1) (m_bk (m_bk (m_bk h 1 3 (r_train S D N R).2.1.1 (r_train S D N R).2.1.2) 25 1 (r_train S D N R).2.2.2.2 RL) 26 21 (r_train S D N R).2.2.1 (r_train S D N R).2.2.2.1)) := by
          intro m51
          induction m51 with
          | zero => intro i _ _ hm51; exact absurd hm51 (Nat.not_lt_zero _)
          | succ m51 ih51 =>
            intro i hi ha hm51
            have hl6 : ct D 6 ≤ 5 := hN.2.2.2.2.2.2
            refine mw_iload 0 dX6_readTrain_51 rfl ?_
            refine mw_aload_n 3 dX6_readTrain_53 rfl ?_
            refine mw_getr 6 0 dX6_readTrain_54 fl_X6_12 (by decide) (by decide) rfl (rd_o hr) (rd_r0 hr) ?_
            refine mw_getr 5 0 dX6_readTrain_57 fl_X6_86 (by decide) (by decide) rfl (pl_o hp) (pl_r0 hp) ?_
            refine mw_bipush (v := 6) dX6_readTrain_60 (by decide) ?_
            refine mw_iaN 6 dX6_readTrain_62 (pl_a0 hp) (by decide) (by decide) (by decide) ?_
            refine mw_top (x' := (nI (ct D 6))) ((bk_I 1 6 (by decide)).trans hN.2.2.2.2.2.1) ?_
            refine mw_icmp_ge (tgt := 93) dX6_readTrain_63 (by decide) (fun cc => ?_) (fun cc => ?_)
            · have cc := (nI_leI (by omega) (by omega)).mp cc
              have ca : ¬ an (fun t => decide (D 19 t = (t_nameI D N (t_nextS (t_newS D N (t_nextS ((r_hasRoom S D N R 6 5).2.1)))) 0))) (ct D 6) = true := by rw [show ct D 6 = i by omega, ha]; decide
              refine mw_aload_n 4 dX6_readTrain_93 rfl ?_
              refine mw_bipush (v := 11) dX6_readTrain_94 (by decide) ?_
              refine mw_cV (rest := []) [.int 11] (cs_nextOfTwo d (m_bk (m_bk (m_bk h 1 3 ((t_nameS D N (t_nextS (t_newS D N (t_nextS ((r_hasRoom S D N R 6 5).2.1)))) 0).1) ((t_nameS D N (t_nextS (t_newS D N (t_nextS ((r_hasRoom S D N R 6 5).2.1)))) 0).2)) 25 1 R RL) 26 21 D N) (t_nameS D N (t_nextS (t_newS D N (t_nextS ((r_hasRoom S D N R 6 5).2.1)))) 0) hx (bk_O (bk_O bk_I (by decide)) (by decide)) (bk_OJ (bk_OJ bk_J (by decide)) (by decide)) 11 (ok_name (ok_next (ok_new (ok_next (ok_room ok)))))) mY_X10_nextOfTwo dX6_readTrain_96 ml_X6_133 (tx_o hx) rfl rfl (Nat.le_of_ble_eq_true rfl) ⟨Nat.le_refl _, Nat.le_refl _⟩ rfl ?_
              refine mw_hp ((bk_cm (by decide)).trans (congrArg (fun z => m_bk z 26 21 D N) ((bk_cm (by decide)).trans (congrArg (fun z => m_bk z 25 1 R RL) bk_bk)))) ?_
              refine mw_istore [(5, .int (t_two (t_nextS (t_nameS D N (t_nextS (t_newS D N (t_nextS ((r_hasRoom S D N R 6 5).2.1)))) 0)).1 11)), (4, .int (t_nameI D N (t_nextS (t_newS D N (t_nextS ((r_hasRoom S D N R 6 5).2.1)))) 0)), (2, .long (((t_newS D N (t_nextS ((r_hasRoom S D N R 6 5).2.1))).2) 0 7)), (0, .ref 25), (1, .ref 1)] dX6_readTrain_99 (Nat.le_of_ble_eq_true rfl) rfl ?_
              refine mw_iload 0 dX6_readTrain_101 rfl ?_
              refine mw_iconst (v := -1) dX6_readTrain_103 rfl ?_
              refine mw_icmp_ne (tgt := 109) dX6_readTrain_104 (by decide) (fun c104 => ?_) (fun c104 => ?_)
              · refine mw_aload_n 3 dX6_readTrain_109 rfl ?_
                refine mw_getr 6 0 dX6_readTrain_110 fl_X6_12 (by decide) (by decide) rfl (rd_o hr) (rd_r0 hr) ?_
                refine mw_bipush (v := 6) dX6_readTrain_113 (by decide) ?_
                refine mw_lload_n 2 dX6_readTrain_115 rfl ?_
                refine mw_cV (rest := []) [.int 6, .long (((t_newS D N (t_nextS ((r_hasRoom S D N R 6 5).2.1))).2) 0 7)] (c_X5_addOne (d + 3) (m_bk (m_bk (m_bk h 1 3 ((t_twoS (t_nextS (t_nameS D N (t_nextS (t_newS D N (t_nextS ((r_hasRoom S D N R 6 5).2.1)))) 0)) 11).1) ((t_twoS (t_nextS (t_nameS D N (t_nextS (t_newS D N (t_nextS ((r_hasRoom S D N R 6 5).2.1)))) 0)) 11).2)) 25 1 R RL) 26 21 D N) 26 _ _ hp bk_I bk_J 6 (ct D 6) _ (by decide) hN.2.2.2.2.2.1 (by have := hN.2.2.2.2.2.2; omega)) mY_X5_addOne dX6_readTrain_116 ml_X6_109 (pl_o hp) rfl rfl (Nat.le_of_ble_eq_true rfl) ⟨Nat.le_refl _, Nat.le_refl _⟩ rfl ?_
                refine mw_hp bk_bk ?_
                refine mw_istore [(6, .int (nI (ct D 6))), (5, .int (t_two (t_nextS (t_nameS D N (t_nextS (t_newS D N (t_nextS ((r_hasRoom S D N R 6 5).2.1)))) 0)).1 11)), (4, .int (t_nameI D N (t_nextS (t_newS D N (t_nextS ((r_hasRoom S D N R 6 5).2.1)))) 0)), (2, .long (((t_newS D N (t_nextS ((r_hasRoom S D N R 6 5).2.1))).2) 0 7)), (0, .ref 25), (1, .ref 1)] dX6_readTrain_119 (Nat.le_of_ble_eq_true rfl) rfl ?_
                refine mw_aload_n 4 dX6_readTrain_121 rfl ?_
                refine mw_getr 6 0 dX6_readTrain_122 fl_X6_12 (by decide) (by decide) rfl (rd_o hr) (rd_r0 hr) ?_
                refine mw_getr 5 18 dX6_readTrain_125 fl_X6_201 (by decide) (by decide) rfl (pl_o hp) (pl_r18 hp) ?_
                refine mw_iload 0 dX6_readTrain_128 rfl ?_
                refine mw_iload 2 dX6_readTrain_130 rfl ?_
                refine mw_isN (ct D 6) dX6_readTrain_132 (pl_a18 hp) (by omega) (by decide) rfl ?_
                refine mw_hp (bk_si (j := 19) (by decide)) ?_
                refine mw_aload_n 4 dX6_readTrain_133 rfl ?_
                refine mw_getr 6 0 dX6_readTrain_134 fl_X6_12 (by decide) (by decide) rfl (rd_o hr) (rd_r0 hr) ?_
                refine mw_getr 5 19 dX6_readTrain_137 fl_X6_204 (by decide) (by decide) rfl (pl_o hp) (pl_r19 hp) ?_
                refine mw_iload 0 dX6_readTrain_140 rfl ?_
                refine mw_iload 1 dX6_readTrain_142 rfl ?_
                refine mw_isN (ct D 6) dX6_readTrain_144 (pl_a19 hp) (by omega) (by decide) rfl ?_
                refine mw_hp (bk_si (j := 20) (by decide)) ?_
                refine mw_aload_n 5 dX6_readTrain_145 rfl ?_
                refine mw_cS (rest := []) [.ref 1] (c_X6_goOn d (m_bk (m_bk (m_bk h 1 3 ((t_twoS (t_nextS (t_nameS D N (t_nextS (t_newS D N (t_nextS ((r_hasRoom S D N R 6 5).2.1)))) 0)) 11).1) ((t_twoS (t_nextS (t_nameS D N (t_nextS (t_newS D N (t_nextS ((r_hasRoom S D N R 6 5).2.1)))) 0)) 11).2)) 25 1 R RL) 26 21 (u2 (u2 (u2 D 1 6 (nI (ct D 6 + 1))) 19 (ct D 6) (t_nameI D N (t_nextS (t_newS D N (t_nextS ((r_hasRoom S D N R 6 5).2.1)))) 0)) 20 (ct D 6) (t_two (t_nextS (t_nameS D N (t_nextS (t_newS D N (t_nextS ((r_hasRoom S D N R 6 5).2.1)))) 0)).1 11)) (u2l N 2 (6 * 12 + ct D 6) (((t_newS D N (t_nextS ((r_hasRoom S D N R 6 5).2.1))).2) 0 7))) (t_twoS (t_nextS (t_nameS D N (t_nextS (t_newS D N (t_nextS ((r_hasRoom S D N R 6 5).2.1)))) 0)) 11) hx (bk_O (bk_O bk_I (by decide)) (by decide)) (bk_OJ (bk_OJ bk_J (by decide)) (by decide)) (ok_two (ok_next (ok_name (ok_next (ok_new (ok_next (ok_room ok)))))))) mY_X6_goOn dX6_readTrain_146 ml_X6_113 rfl rfl (Nat.le_of_ble_eq_true rfl) ⟨Nat.le_refl _, Nat.le_refl _⟩ rfl ?_
                refine mw_hp ((bk_cm (by decide)).trans (congrArg (fun z => m_bk z 26 21 (u2 (u2 (u2 D 1 6 (nI (ct D 6 + 1))) 19 (ct D 6) (t_nameI D N (t_nextS (t_newS D N (t_nextS ((r_hasRoom S D N R 6 5).2.1)))) 0)) 20 (ct D 6) (t_two (t_nextS (t_nameS D N (t_nextS (t_newS D N (t_nextS ((r_hasRoom S D N R 6 5).2.1)))) 0)).1 11)) (u2l N 2 (6 * 12 + ct D 6) (((t_newS D N (t_nextS ((r_hasRoom S D N R 6 5).2.1))).2) 0 7))) ((bk_cm (by decide)).trans (congrArg (fun z => m_bk z 25 1 R RL) bk_bk)))) ?_
                refine mw_ireturn dX6_readTrain_149 rfl rfl ⟨rfl, rfl⟩ ?_
                have e : r_train S D N R = ((1 : Int32), (t_nextS (t_twoS (t_nextS (t_nameS D N (t_nextS (t_newS D N (t_nextS ((r_hasRoom S D N R 6 5).2.1)))) 0)) 11)), (u2 (u2 (u2 D 1 6 (nI (ct D 6 + 1))) 19 (ct D 6) (t_nameI D N (t_nextS (t_newS D N (t_nextS ((r_hasRoom S D N R 6 5).2.1)))) 0)) 20 (ct D 6) (t_two (t_nextS (t_nameS D N (t_nextS (t_newS D N (t_nextS ((r_hasRoom S D N R 6 5).2.1)))) 0)).1 11)), (u2l N 2 (6 * 12 + ct D 6) (((t_newS D N (t_nextS ((r_hasRoom S D N R 6 5).2.1))).2) 0 7)), R) := by rw [r_train, if_neg c8, if_neg c19, if_neg c43, if_neg ca, if_neg c104]
                exact ⟨by rw [e], by rw [e]⟩
              · refine mw_iconst (v := 0) dX6_readTrain_107 rfl ?_
                refine mw_ireturn dX6_readTrain_108 rfl rfl ⟨rfl, rfl⟩ ?_
                have e : r_train S D N R = ((0 : Int32), (t_twoS (t_nextS (t_nameS D N (t_nextS (t_newS D N (t_nextS ((r_hasRoom S D N R 6 5).2.1)))) 0)) 11), D, N, R) := by rw [r_train, if_neg c8, if_neg c19, if_neg c43, if_neg ca, if_pos c104]
                exact ⟨by rw [e], by rw [e]⟩
            · have cc := mt (nI_leI (by omega) (by omega)).mpr cc
              refine mw_aload_n 3 dX6_readTrain_66 rfl ?_
              refine mw_getr 6 0 dX6_readTrain_67 fl_X6_12 (by decide) (by decide) rfl (rd_o hr) (rd_r0 hr) ?_
              refine mw_getr 5 18 dX6_readTrain_70 fl_X6_201 (by decide) (by decide) rfl (pl_o hp) (pl_r18 hp) ?_
              refine mw_iload 0 dX6_readTrain_73 rfl ?_
              refine mw_iaN i dX6_readTrain_75 (pl_a18 hp) (by omega) (by decide) rfl ?_
              refine mw_top (x' := (D 19 i)) (bk_I 19 i (by decide)) ?_
              refine mw_iload 1 dX6_readTrain_76 rfl ?_
              refine mw_icmp_ne (tgt := 87) dX6_readTrain_78 (by decide) (fun c78 => ?_) (fun c78 => ?_)
              · refine mw_iinc 0 (nI (i + 1)) [(5, .int (nI (i + 1))), (4, .int (t_nameI D N (t_nextS (t_newS D N (t_nextS ((r_hasRoom S D N R 6 5).2.1)))) 0)), (2, .long (((t_newS D N (t_nextS ((r_hasRoom S D N R 6 5).2.1))).2) 0 7)), (0, .ref 25), (1, .ref 1)] dX6_readTrain_87 rfl (nI_1 _) (Nat.le_of_ble_eq_true rfl) rfl ?_
                refine mw_goto (tgt := 51) dX6_readTrain_90 (by decide) ?_
                refine ih51 _ ?_ ?_ ?_
                · first | omega | rfl | assumption | (simp_all [bo]; done)
                · rw [an, ha]; simp [c78]
                · omega
              · have ca : an (fun t => decide (D 19 t = (t_nameI D N (t_nextS (t_newS D N (t_nextS ((r_hasRoom S D N R 6 5).2.1)))) 0))) (ct D 6) = true := an_true (i := i) (by omega) (by simp [c78])
                refine mw_aload_n 4 dX6_readTrain_81 rfl ?_
                refine mw_iconst (v := 3) dX6_readTrain_82 rfl ?_
                refine mw_cV (rest := []) [.int 3] (cs_wrong (d + 3) (m_bk (m_bk (m_bk h 1 3 ((t_nameS D N (t_nextS (t_newS D N (t_nextS ((r_hasRoom S D N R 6 5).2.1)))) 0).1) ((t_nameS D N (t_nextS (t_newS D N (t_nextS ((r_hasRoom S D N R 6 5).2.1)))) 0).2)) 25 1 R RL) 26 21 D N) (t_nameS D N (t_nextS (t_newS D N (t_nextS ((r_hasRoom S D N R 6 5).2.1)))) 0) hx (bk_O (bk_O bk_I (by decide)) (by decide)) (bk_OJ (bk_OJ bk_J (by decide)) (by decide)) 3) mY_X10_wrong dX6_readTrain_83 ml_X6_82 (tx_o hx) rfl rfl (Nat.le_of_ble_eq_true rfl) ⟨Nat.le_refl _, Nat.le_refl _⟩ rfl ?_
                refine mw_hp ((bk_cm (by decide)).trans (congrArg (fun z => m_bk z 26 21 D N) ((bk_cm (by decide)).trans (congrArg (fun z => m_bk z 25 1 R RL) bk_bk)))) ?_
                refine mw_ireturn dX6_readTrain_86 rfl rfl ⟨rfl, rfl⟩ ?_
                have e : r_train S D N R = ((0 : Int32), (t_wrongS (t_nameS D N (t_nextS (t_newS D N (t_nextS ((r_hasRoom S D N R 6 5).2.1)))) 0) 3), D, N, R) := by rw [r_train, if_neg c8, if_neg c19, if_neg c43, if_pos ca]
                exact ⟨by rw [e], by rw [e]⟩
        refine L51 _ 0 ?_ ?_ (Nat.lt_succ_self _)
        · first | omega | rfl | assumption | (simp_all [bo]; done)
        · rfl
      · refine mw_iconst (v := 0) dX6_readTrain_46 rfl ?_
        refine mw_ireturn dX6_readTrain_47 rfl rfl ⟨rfl, rfl⟩ ?_
        have e : r_train S D N R = ((0 : Int32), (t_nameS D N (t_nextS (t_newS D N (t_nextS ((r_hasRoom S D N R 6 5).2.1)))) 0), D, N, R) := by rw [r_train, if_neg c8, if_neg c19, if_pos c43]
        exact ⟨by rw [e], by rw [e]⟩
    · refine mw_iconst (v := 0) dX6_readTrain_22 rfl ?_
      refine mw_ireturn dX6_readTrain_23 rfl rfl ⟨rfl, rfl⟩ ?_
      have e : r_train S D N R = ((0 : Int32), (t_newS D N (t_nextS ((r_hasRoom S D N R 6 5).2.1))), D, N, R) := by rw [r_train, if_neg c8, if_pos c19]
      exact ⟨by rw [e], by rw [e]⟩
