def r_addTrack (D : m_V) (a b c e : Int32) : m_V := (u2 (u2 (u2 (u2 (u2 D 5 (ct D 2) a) 6 (ct D 2) b) 7 (ct D 2) c) 8 (ct D 2) e) 1 2 (nI (ct D 2 + 1)))
set_option maxRecDepth 100000 in
set_option maxHeartbeats 4000000 in
theorem c_X6_addTrack (d : Nat) (h : m_H) (D : m_V) (N : m_L) (hr : isRead h.2.2) (hp : isPlan h.2.2 26) (hD : blI h 26 21 D) (hDN : blJ h 26 21 N) (hN : okP D) (a b c e : Int32) (hlt : ct D 2 < 16) : MC yX6_addTrack cX6_addTrack 6 none (d + 1) 0 0 [.ref 25, .int a, .int b, .int c, .int e] h (m_rn (m_bk h 26 21 (r_addTrack D a b c e) N)) := by
  refine mc_of (by decide +kernel) (Nat.le_of_ble_eq_true rfl) ?_
  show MW (yX6_addTrack.cls, cX6_addTrack, 6, none, yX6_addTrack.name, d + 1, 0, 0) 0 (0, 0) [(0, .ref 25), (1, .int a), (2, .int b), (3, .int c), (4, .int e)] [] h _
  refine mw_hp (bk_self (n := 21) hD hDN) ?_
  refine mw_aload_n 0 dX6_addTrack_0 rfl ?_
  refine mw_getr 6 0 dX6_addTrack_1 fl_X6_12 (by decide) (by decide) rfl (rd_o hr) (rd_r0 hr) ?_
  refine mw_getr 5 0 dX6_addTrack_4 fl_X6_86 (by decide) (by decide) rfl (pl_o hp) (pl_r0 hp) ?_
  refine mw_iconst (v := 2) dX6_addTrack_7 rfl ?_
  refine mw_iaN 2 dX6_addTrack_8 (pl_a0 hp) (by decide) (by decide) (by decide) ?_
  refine mw_top (x' := (nI (ct D 2))) ((bk_i (j := 1) (by decide)).trans hN.2.2.1.1) ?_
  refine mw_istore [(5, .int (nI (ct D 2))), (0, .ref 25), (1, .int a), (2, .int b), (3, .int c), (4, .int e)] dX6_addTrack_9 (Nat.le_of_ble_eq_true rfl) rfl ?_
  refine mw_aload_n 1 dX6_addTrack_11 rfl ?_
  refine mw_getr 6 0 dX6_addTrack_12 fl_X6_12 (by decide) (by decide) rfl (rd_o hr) (rd_r0 hr) ?_
  refine mw_getr 5 4 dX6_addTrack_15 fl_X6_144 (by decide) (by decide) rfl (pl_o hp) (pl_r4 hp) ?_
  refine mw_iload 0 dX6_addTrack_18 rfl ?_
  refine mw_iload_n 2 dX6_addTrack_20 rfl ?_
  refine mw_isN (ct D 2) dX6_addTrack_21 (pl_a4 hp) (by omega) (by decide) rfl ?_
  refine mw_hp (bk_si (j := 5) (by decide)) ?_
  refine mw_aload_n 1 dX6_addTrack_22 rfl ?_
  refine mw_getr 6 0 dX6_addTrack_23 fl_X6_12 (by decide) (by decide) rfl (rd_o hr) (rd_r0 hr) ?_
  refine mw_getr 5 5 dX6_addTrack_26 fl_X6_147 (by decide) (by decide) rfl (pl_o hp) (pl_r5 hp) ?_
  refine mw_iload 0 dX6_addTrack_29 rfl ?_
  refine mw_iload_n 3 dX6_addTrack_31 rfl ?_
  refine mw_isN (ct D 2) dX6_addTrack_32 (pl_a5 hp) (by omega) (by decide) rfl ?_
  refine mw_hp (bk_si (j := 6) (by decide)) ?_
  refine mw_aload_n 1 dX6_addTrack_33 rfl ?_
  refine mw_getr 6 0 dX6_addTrack_34 fl_X6_12 (by decide) (by decide) rfl (rd_o hr) (rd_r0 hr) ?_
  refine mw_getr 5 6 dX6_addTrack_37 fl_X6_150 (by decide) (by decide) rfl (pl_o hp) (pl_r6 hp) ?_
  refine mw_iload 0 dX6_addTrack_40 rfl ?_
  refine mw_iload_n 4 dX6_addTrack_42 rfl ?_
  refine mw_isN (ct D 2) dX6_addTrack_43 (pl_a6 hp) (by omega) (by decide) rfl ?_
  refine mw_hp (bk_si (j := 7) (by decide)) ?_
  refine mw_aload_n 1 dX6_addTrack_44 rfl ?_
  refine mw_getr 6 0 dX6_addTrack_45 fl_X6_12 (by decide) (by decide) rfl (rd_o hr) (rd_r0 hr) ?_
  refine mw_getr 5 7 dX6_addTrack_48 fl_X6_153 (by decide) (by decide) rfl (pl_o hp) (pl_r7 hp) ?_
  refine mw_iload 0 dX6_addTrack_51 rfl ?_
  refine mw_iload 5 dX6_addTrack_53 rfl ?_
  refine mw_isN (ct D 2) dX6_addTrack_55 (pl_a7 hp) (by omega) (by decide) rfl ?_
  refine mw_hp (bk_si (j := 8) (by decide)) ?_
  refine mw_aload_n 1 dX6_addTrack_56 rfl ?_
  refine mw_getr 6 0 dX6_addTrack_57 fl_X6_12 (by decide) (by decide) rfl (rd_o hr) (rd_r0 hr) ?_
  refine mw_getr 5 0 dX6_addTrack_60 fl_X6_86 (by decide) (by decide) rfl (pl_o hp) (pl_r0 hp) ?_
  refine mw_iconst (v := 2) dX6_addTrack_63 rfl ?_
  refine mw_iload 0 dX6_addTrack_64 rfl ?_
  refine mw_iconst (v := 1) dX6_addTrack_66 rfl ?_
  refine mw_iadd dX6_addTrack_67 ?_
  refine mw_top (x' := (nI (ct D 2 + 1))) (nI_1 (ct D 2)) ?_
  refine mw_isN 2 dX6_addTrack_68 (pl_a0 hp) (by decide) (by decide) (by decide) ?_
  refine mw_hp (bk_si (j := 1) (by decide)) ?_
  refine mw_return dX6_addTrack_69 rfl ⟨rfl, rfl⟩ ?_
  exact ⟨rfl, rfl⟩
