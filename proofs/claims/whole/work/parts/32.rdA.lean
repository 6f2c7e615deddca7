theorem room_lt {S : m_TX} {D : m_V} {N : m_L} {R : m_V} {s c m : Nat} (h : ¬ (r_hasRoom S D N R s (nI m)).1 = 0) (e : D 1 s = nI c) (hc : c < 2 ^ 31) (hm : m < 2 ^ 31) : c < m := by
  unfold r_hasRoom at h
  split at h
  · rename_i q
    rw [e] at q
    exact (nI_ltI hc hm).mp q
  · exact absurd rfl h
theorem name_in {P : m_V} {N : m_L} {S : m_TX} {s : Nat} : t_nameI P N S s = -1 ∨ ∃ q, q < ct P s ∧ t_nameI P N S s = nI q := by
  unfold t_nameI t_name
  split
  · rcases ff_cases (fun i => decide (N 2 (s * 12 + i) = S.2 0 7)) (ct P s) 0 with e | ⟨q, -, h2, h3, -⟩
    · exact Or.inl e
    · exact Or.inr ⟨q, by omega, h3⟩
  · exact Or.inl rfl
def r_section (S : m_TX) (D : m_V) (N : m_L) (R : m_V) : m_RS := (if (r_hasRoom S D N R 0 12).1 = 0 then ((0 : Int32), ((r_hasRoom S D N R 0 12).2.1), D, N, R) else (if (t_newI D N (t_nextS ((r_hasRoom S D N R 0 12).2.1))) = 0 then ((0 : Int32), (t_newS D N (t_nextS ((r_hasRoom S D N R 0 12).2.1))), D, N, R) else (if (t_num (t_nextS (t_newS D N (t_nextS ((r_hasRoom S D N R 0 12).2.1)))).1 1 30) = (-1) then ((0 : Int32), (t_numS (t_nextS (t_newS D N (t_nextS ((r_hasRoom S D N R 0 12).2.1)))) 1 30), D, N, R) else ((1 : Int32), (t_nextS (t_numS (t_nextS (t_newS D N (t_nextS ((r_hasRoom S D N R 0 12).2.1)))) 1 30)), (u2 (u2 D 1 0 (nI (ct D 0 + 1))) 3 (ct D 0) (t_num (t_nextS (t_newS D N (t_nextS ((r_hasRoom S D N R 0 12).2.1)))).1 1 30)), (u2l N 2 (0 * 12 + ct D 0) (((t_newS D N (t_nextS ((r_hasRoom S D N R 0 12).2.1))).2) 0 7)), R))))
set_option maxRecDepth 100000 in
set_option maxHeartbeats 4000000 in
theorem c_X6_readSection (d : Nat) (h : m_H) (S : m_TX) (D : m_V) (N : m_L) (R : m_V) (RL : m_L) (hx : isText h.2.2) (hr : isRead h.2.2) (hp : isPlan h.2.2 26) (hT : blI h 1 3 S.1) (hX : blJ h 1 3 S.2) (hD : blI h 26 21 D) (hDN : blJ h 26 21 N) (hR : blI h 25 1 R) (hRL : blJ h 25 1 RL) (hN : okP D) (ok : okT S.1) : MC yX6_readSection cX6_readSection 5 (some .boolean) (d + 5) 0 0 [.ref 25, .ref 1] h (m_r (.int (r_section S D N R).1) (m_bk (m_bk (m_bk h 1 3 (r_section S D N R).2.1.1 (r_section S D N R).2.1.2) 25 1 (r_section S D N R).2.2.2.2 RL) 26 21 (r_section S D N R).2.2.1 (r_section S D N R).2.2.2.1)) := by
  refine mc_of (by decide +kernel) (Nat.le_of_ble_eq_true rfl) ?_
  show MW (yX6_readSection.cls, cX6_readSection, 5, (some .boolean), yX6_readSection.name, d + 5, 0, 0) 0 (0, 0) [(0, .ref 25), (1, .ref 1)] [] h _
  refine mw_hp (bk_self (n := 3) hT hX) ?_
  refine mw_hp (bk_self (n := 1) (bk_O hR (by decide)) (bk_OJ hRL (by decide))) ?_
  refine mw_hp (bk_self (n := 21) (bk_O (bk_O hD (by decide)) (by decide)) (bk_OJ (bk_OJ hDN (by decide)) (by decide))) ?_
  refine mw_aload_n 0 dX6_readSection_0 rfl ?_
  refine mw_aload_n 1 dX6_readSection_1 rfl ?_
  refine mw_iconst (v := 0) dX6_readSection_2 rfl ?_
  refine mw_bipush (v := 12) dX6_readSection_3 (by decide) ?_
  refine mw_cV (rest := []) [.ref 1, .int 0, .int 12] (c_X6_hasRoom (d + 2) (m_bk (m_bk (m_bk h 1 3 S.1 S.2) 25 1 R RL) 26 21 D N) S _ _ _ _ hx hr hp (bk_O (bk_O bk_I (by decide)) (by decide)) (bk_OJ (bk_OJ bk_J (by decide)) (by decide)) bk_I bk_J (bk_O bk_I (by decide)) (bk_OJ bk_J (by decide)) hN ok 0 12 (by decide)) mY_X6_hasRoom dX6_readSection_5 ml_X6_90 (rd_o hr) rfl rfl (Nat.le_of_ble_eq_true rfl) ⟨Nat.le_refl _, Nat.le_refl _⟩ rfl ?_
  refine mw_hp (h' := (m_bk (m_bk (m_bk h 1 3 (((r_hasRoom S D N R 0 12).2.1).1) (((r_hasRoom S D N R 0 12).2.1).2)) 25 1 R RL) 26 21 D N)) (room_heap ) ?_
  refine mw_if_eq (tgt := 22) dX6_readSection_8 (by decide) (fun c8 => ?_) (fun c8 => ?_)
  · refine mw_iconst (v := 0) dX6_readSection_22 rfl ?_
    refine mw_ireturn dX6_readSection_23 rfl rfl ⟨rfl, rfl⟩ ?_
    have e : r_section S D N R = ((0 : Int32), ((r_hasRoom S D N R 0 12).2.1), D, N, R) := by rw [r_section, if_pos c8]
    exact ⟨by rw [e], by rw [e]⟩
  · have hlt : ct D 0 < 12 := room_lt c8 hN.1.1 (by have := hN.1.2; omega) (by decide)
    refine mw_aload_n 1 dX6_readSection_11 rfl ?_
    refine mw_aload_n 0 dX6_readSection_12 rfl ?_
    refine mw_getr 6 0 dX6_readSection_13 fl_X6_12 (by decide) (by decide) rfl (rd_o hr) (rd_r0 hr) ?_
    refine mw_cV (rest := []) [.ref 26] (cs_nextNewName d (m_bk (m_bk (m_bk h 1 3 (((r_hasRoom S D N R 0 12).2.1).1) (((r_hasRoom S D N R 0 12).2.1).2)) 25 1 R RL) 26 21 D N) ((r_hasRoom S D N R 0 12).2.1) hx (bk_O (bk_O bk_I (by decide)) (by decide)) (bk_OJ (bk_OJ bk_J (by decide)) (by decide)) 26 D N hp bk_I bk_J (by decide) hN (ok_room ok)) mY_X10_nextNewName dX6_readSection_16 ml_X6_94 (tx_o hx) rfl rfl (Nat.le_of_ble_eq_true rfl) ⟨Nat.le_refl _, Nat.le_refl _⟩ rfl ?_
    refine mw_hp ((bk_cm (by decide)).trans (congrArg (fun z => m_bk z 26 21 D N) ((bk_cm (by decide)).trans (congrArg (fun z => m_bk z 25 1 R RL) bk_bk)))) ?_
    refine mw_if_ne (tgt := 24) dX6_readSection_19 (by decide) (fun c19 => ?_) (fun c19 => ?_)
    · refine mw_aload_n 1 dX6_readSection_24 rfl ?_
      refine mw_getl 10 7 dX6_readSection_25 fl_X6_98 (by decide) (by decide) rfl (tx_o hx) ?_
      refine mw_topl (x' := (((t_newS D N (t_nextS ((r_hasRoom S D N R 0 12).2.1))).2) 0 7)) ((bk_OJ (bk_OJ bk_J (by decide)) (by decide)) 0 7 (by decide)) ?_
      refine mw_lstore_n [(2, .long (((t_newS D N (t_nextS ((r_hasRoom S D N R 0 12).2.1))).2) 0 7)), (0, .ref 25), (1, .ref 1)] dX6_readSection_28 (Nat.le_of_ble_eq_true rfl) rfl ?_
      refine mw_aload_n 2 dX6_readSection_29 rfl ?_
      refine mw_iconst (v := 1) dX6_readSection_30 rfl ?_
      refine mw_bipush (v := 30) dX6_readSection_31 (by decide) ?_
      refine mw_cV (rest := []) [.int 1, .int 30] (cs_nextNumber d (m_bk (m_bk (m_bk h 1 3 ((t_newS D N (t_nextS ((r_hasRoom S D N R 0 12).2.1))).1) ((t_newS D N (t_nextS ((r_hasRoom S D N R 0 12).2.1))).2)) 25 1 R RL) 26 21 D N) (t_newS D N (t_nextS ((r_hasRoom S D N R 0 12).2.1))) hx (bk_O (bk_O bk_I (by decide)) (by decide)) (bk_OJ (bk_OJ bk_J (by decide)) (by decide)) 1 30 (ok_new (ok_next (ok_room ok)))) mY_X10_nextNumber dX6_readSection_33 ml_X6_102 (tx_o hx) rfl rfl (Nat.le_of_ble_eq_true rfl) ⟨Nat.le_refl _, Nat.le_refl _⟩ rfl ?_
      refine mw_hp ((bk_cm (by decide)).trans (congrArg (fun z => m_bk z 26 21 D N) ((bk_cm (by decide)).trans (congrArg (fun z => m_bk z 25 1 R RL) bk_bk)))) ?_
      refine mw_istore [(4, .int (t_num (t_nextS (t_newS D N (t_nextS ((r_hasRoom S D N R 0 12).2.1)))).1 1 30)), (2, .long (((t_newS D N (t_nextS ((r_hasRoom S D N R 0 12).2.1))).2) 0 7)), (0, .ref 25), (1, .ref 1)] dX6_readSection_36 (Nat.le_of_ble_eq_true rfl) rfl ?_
      refine mw_iload 0 dX6_readSection_38 rfl ?_
      refine mw_iconst (v := -1) dX6_readSection_40 rfl ?_
      refine mw_icmp_ne (tgt := 46) dX6_readSection_41 (by decide) (fun c41 => ?_) (fun c41 => ?_)
      · refine mw_aload_n 2 dX6_readSection_46 rfl ?_
        refine mw_getr 6 0 dX6_readSection_47 fl_X6_12 (by decide) (by decide) rfl (rd_o hr) (rd_r0 hr) ?_
        refine mw_getr 5 2 dX6_readSection_50 fl_X6_106 (by decide) (by decide) rfl (pl_o hp) (pl_r2 hp) ?_
        refine mw_aload_n 2 dX6_readSection_53 rfl ?_
        refine mw_getr 6 0 dX6_readSection_54 fl_X6_12 (by decide) (by decide) rfl (rd_o hr) (rd_r0 hr) ?_
        refine mw_iconst (v := 0) dX6_readSection_57 rfl ?_
        refine mw_lload_n 1 dX6_readSection_58 rfl ?_
        refine mw_cV (rest := [.ref (26 + 3)]) [.int 0, .long (((t_newS D N (t_nextS ((r_hasRoom S D N R 0 12).2.1))).2) 0 7)] (c_X5_addOne (d + 3) (m_bk (m_bk (m_bk h 1 3 ((t_numS (t_nextS (t_newS D N (t_nextS ((r_hasRoom S D N R 0 12).2.1)))) 1 30).1) ((t_numS (t_nextS (t_newS D N (t_nextS ((r_hasRoom S D N R 0 12).2.1)))) 1 30).2)) 25 1 R RL) 26 21 D N) 26 _ _ hp bk_I bk_J 0 (ct D 0) _ (by decide) hN.1.1 (by have := hN.1.2; omega)) mY_X5_addOne dX6_readSection_59 ml_X6_109 (pl_o hp) rfl rfl (Nat.le_of_ble_eq_true rfl) ⟨Nat.le_refl _, Nat.le_refl _⟩ rfl ?_
        refine mw_hp bk_bk ?_
        refine mw_iload 0 dX6_readSection_62 rfl ?_
        refine mw_isN (ct D 0) dX6_readSection_64 (pl_a2 hp) (by omega) (by decide) rfl ?_
        refine mw_hp (bk_si (j := 3) (by decide)) ?_
        refine mw_aload_n 3 dX6_readSection_65 rfl ?_
        refine mw_cS (rest := []) [.ref 1] (c_X6_goOn d (m_bk (m_bk (m_bk h 1 3 ((t_numS (t_nextS (t_newS D N (t_nextS ((r_hasRoom S D N R 0 12).2.1)))) 1 30).1) ((t_numS (t_nextS (t_newS D N (t_nextS ((r_hasRoom S D N R 0 12).2.1)))) 1 30).2)) 25 1 R RL) 26 21 (u2 (u2 D 1 0 (nI (ct D 0 + 1))) 3 (ct D 0) (t_num (t_nextS (t_newS D N (t_nextS ((r_hasRoom S D N R 0 12).2.1)))).1 1 30)) (u2l N 2 (0 * 12 + ct D 0) (((t_newS D N (t_nextS ((r_hasRoom S D N R 0 12).2.1))).2) 0 7))) (t_numS (t_nextS (t_newS D N (t_nextS ((r_hasRoom S D N R 0 12).2.1)))) 1 30) hx (bk_O (bk_O bk_I (by decide)) (by decide)) (bk_OJ (bk_OJ bk_J (by decide)) (by decide)) (ok_num (ok_next (ok_new (ok_next (ok_room ok)))))) mY_X6_goOn dX6_readSection_66 ml_X6_113 rfl rfl (Nat.le_of_ble_eq_true rfl) ⟨Nat.le_refl _, Nat.le_refl _⟩ rfl ?_
        refine mw_hp ((bk_cm (by decide)).trans (congrArg (fun z => m_bk z 26 21 (u2 (u2 D 1 0 (nI (ct D 0 + 1))) 3 (ct D 0) (t_num (t_nextS (t_newS D N (t_nextS ((r_hasRoom S D N R 0 12).2.1)))).1 1 30)) (u2l N 2 (0 * 12 + ct D 0) (((t_newS D N (t_nextS ((r_hasRoom S D N R 0 12).2.1))).2) 0 7))) ((bk_cm (by decide)).trans (congrArg (fun z => m_bk z 25 1 R RL) bk_bk)))) ?_
        refine mw_ireturn dX6_readSection_69 rfl rfl ⟨rfl, rfl⟩ ?_
        have e : r_section S D N R = ((1 : Int32), (t_nextS (t_numS (t_nextS (t_newS D N (t_nextS ((r_hasRoom S D N R 0 12).2.1)))) 1 30)), (u2 (u2 D 1 0 (nI (ct D 0 + 1))) 3 (ct D 0) (t_num (t_nextS (t_newS D N (t_nextS ((r_hasRoom S D N R 0 12).2.1)))).1 1 30)), (u2l N 2 (0 * 12 + ct D 0) (((t_newS D N (t_nextS ((r_hasRoom S D N R 0 12).2.1))).2) 0 7)), R) := by rw [r_section, if_neg c8, if_neg c19, if_neg c41]
        exact ⟨by rw [e], by rw [e]⟩
      · refine mw_iconst (v := 0) dX6_readSection_44 rfl ?_
        refine mw_ireturn dX6_readSection_45 rfl rfl ⟨rfl, rfl⟩ ?_
        have e : r_section S D N R = ((0 : Int32), (t_numS (t_nextS (t_newS D N (t_nextS ((r_hasRoom S D N R 0 12).2.1)))) 1 30), D, N, R) := by rw [r_section, if_neg c8, if_neg c19, if_pos c41]
        exact ⟨by rw [e], by rw [e]⟩
    · refine mw_iconst (v := 0) dX6_readSection_22 rfl ?_
      refine mw_ireturn dX6_readSection_23 rfl rfl ⟨rfl, rfl⟩ ?_
      have e : r_section S D N R = ((0 : Int32), (t_newS D N (t_nextS ((r_hasRoom S D N R 0 12).2.1))), D, N, R) := by rw [r_section, if_neg c8, if_pos c19]
      exact ⟨by rw [e], by rw [e]⟩
