theorem dr_step {P : m_V} {m : Nat} {x : Int32} {V : m_V} (h : ¬ 1000 ≤ V 0 1) : s_dr P (m + 1) x V = ((s_dr P m (s_dx P x) (s_tickV P (s_dV P V x))).1 + 1, (s_dr P m (s_dx P x) (s_tickV P (s_dV P V x))).2) := by rw [s_dr, if_neg h]
theorem dr_stop {P : m_V} {m : Nat} {x : Int32} {V : m_V} (h : 1000 ≤ V 0 1) : s_dr P m x V = (0, V) := by cases m with
  | zero => rfl
  | succ m => rw [s_dr, if_pos h]
set_option maxRecDepth 100000 in
set_option maxHeartbeats 4000000 in
theorem c_X8_passDrawn (d : Nat) (h : m_H) (s : Nat) (V P : m_V) (SL : m_L) (hs : isState h.2.2 s) (hp : isPlan h.2.2 4) (hV : blI h s 7 V) (hP : blI h 4 21 P) (hw : wfP P) (hSL : blJ h s 7 SL) (hd : 4 + 21 ≤ s) (ho : okS P V) (n : Nat) (hn : n ≤ 60) (x0 : Int32) : MC yX8_passDrawn cX8_passDrawn 7 (some .int) (d + 6) 0 0 [.ref s, .int (nI n), .int x0] h (m_r (.int (nI (s_dr P n x0 V).1)) (m_bk h s 7 ((s_dr P n x0 V).2) SL)) := by
  have hN := hw.1
  obtain ⟨e4, g4⟩ := hN.2.2.2.2.1
  obtain ⟨e1, g1⟩ := hN.2.1
  refine mc_of (by decide +kernel) (Nat.le_of_ble_eq_true rfl) ?_
  show MW (yX8_passDrawn.cls, cX8_passDrawn, 7, (some .int), yX8_passDrawn.name, d + 6, 0, 0) 0 (0, 0) [(0, .ref s), (1, .int (nI n)), (2, .int x0)] [] h _
  refine mw_hp (bk_self (n := 7) hV hSL) ?_
  refine mw_iload_n 2 dX8_passDrawn_0 rfl ?_
  refine mw_istore_n [(3, .int x0), (0, .ref s), (1, .int (nI n)), (2, .int x0)] dX8_passDrawn_1 (Nat.le_of_ble_eq_true rfl) rfl ?_
  refine mw_iconst (v := 0) dX8_passDrawn_2 rfl ?_
  refine mw_istore [(4, .int 0), (3, .int x0), (0, .ref s), (1, .int (nI n)), (2, .int x0)] dX8_passDrawn_3 (Nat.le_of_ble_eq_true rfl) rfl ?_
  have L5 : ∀ (m5 : Nat) (i : Nat) (x : Int32) (U : m_V), (i ≤ n) → (okS P U) → (s_dr P n x0 V = (i + (s_dr P (n - i) x U).1, (s_dr P (n - i) x U).2)) → n - i < m5 → MW (yX8_passDrawn.cls, cX8_passDrawn, 7, (some .int), yX8_passDrawn.name, d + 6, 0, 0) 5 (0, 0) [(4, .int (nI i)), (3, .int x), (0, .ref s), (1, .int (nI n)), (2, .int x0)] [] (m_bk h s 7 U SL) (m_r (.int (nI (s_dr P n x0 V).1)) (m_bk h s 7 ((s_dr P n x0 V).2) SL)) := by
    intro m5
    induction m5 with
    | zero => intro i x U _ _ _ hm5; exact absurd hm5 (Nat.not_lt_zero _)
    | succ m5 ih5 =>
      intro i x U hi hok hu hm5
      refine mw_iload 0 dX8_passDrawn_5 rfl ?_
      refine mw_iload_n 3 dX8_passDrawn_7 rfl ?_
      refine mw_icmp_ge (tgt := 104) dX8_passDrawn_8 (by decide) (fun cc => ?_) (fun cc => ?_)
      · have cc := (nI_leI (by omega) (by omega)).mp cc
        refine mw_iload 0 dX8_passDrawn_104 rfl ?_
        refine mw_ireturn dX8_passDrawn_106 rfl rfl ⟨rfl, rfl⟩ ?_
        exact ⟨by first | (rw [hu, show n - i = 0 by omega]; rfl) | (rw [hu, dr_stop c18]; rfl), by first | (rw [hu, show n - i = 0 by omega]; rfl) | (rw [hu, dr_stop c18])⟩
      · have cc := mt (nI_leI (by omega) (by omega)).mpr cc
        refine mw_aload_n 2 dX8_passDrawn_11 rfl ?_
        refine mw_geti 8 1 dX8_passDrawn_12 fl_X8_9 (by decide) (by decide) rfl (sa_o hs) ?_
        refine mw_top (x' := (U 0 1)) (bk_i (j := 0) (by decide)) ?_
        refine mw_sipush (v := 1000) dX8_passDrawn_15 (by decide) ?_
        refine mw_icmp_ge (tgt := 104) dX8_passDrawn_18 (by decide) (fun c18 => ?_) (fun c18 => ?_)
        · refine mw_iload 0 dX8_passDrawn_104 rfl ?_
          refine mw_ireturn dX8_passDrawn_106 rfl rfl ⟨rfl, rfl⟩ ?_
          exact ⟨by first | (rw [hu, show n - i = 0 by omega]; rfl) | (rw [hu, dr_stop c18]; rfl), by first | (rw [hu, show n - i = 0 by omega]; rfl) | (rw [hu, dr_stop c18])⟩
        · have J94 : ∀ (x2 : Int32) (W : m_V), (x2 = s_dx P x) → (W = s_dV P U x) → MW (yX8_passDrawn.cls, cX8_passDrawn, 7, (some .int), yX8_passDrawn.name, d + 6, 0, 0) 94 (0, 0) [(4, .int (nI i)), (3, .int x2), (0, .ref s), (1, .int (nI n)), (2, .int x0)] [] (m_bk h s 7 W SL) (m_r (.int (nI (s_dr P n x0 V).1)) (m_bk h s 7 ((s_dr P n x0 V).2) SL)) := by
            intro x2 W hx2 hW
            have hok2 : okS P W := by rw [hW]; exact dV_ok hok x
            refine mw_aload_n 2 dX8_passDrawn_94 rfl ?_
            refine mw_cVv (rest := []) [] (c_X8_passOne (d + 1) (m_bk h s 7 W SL) s _ P _ hs hp bk_I (bk_O hP (Or.inl hd)) hw bk_J hd hok2) mY_X8_passOne dX8_passDrawn_95 ml_X8_153 (sa_o hs) rfl rfl (Nat.le_of_ble_eq_true rfl) ⟨Nat.le_refl _, Nat.le_refl _⟩ rfl ?_
            refine mw_hp bk_bk ?_
            refine mw_iinc 0 (nI (i + 1)) [(4, .int (nI (i + 1))), (3, .int x2), (0, .ref s), (1, .int (nI n)), (2, .int x0)] dX8_passDrawn_98 rfl (nI_1 _) (Nat.le_of_ble_eq_true rfl) rfl ?_
            refine mw_goto (tgt := 5) dX8_passDrawn_101 (by decide) ?_
            refine ih5 _ _ _ ?_ ?_ ?_ ?_
            · first | omega | rfl | assumption | (simp_all [bo]; done)
            · exact tickV_ok hw hok2
            · rw [hu, show n - i = (n - (i + 1)) + 1 by omega, dr_step c18, ← hx2, ← hW]; simp only [Nat.add_assoc, Nat.add_comm 1]
            · omega
          have J72 : ∀ (ch : Int32), (ch = s_ch P (s_lot (s_stir x) 4)) → (∃ m, ch = nI m ∧ ((s_lot (s_stir x) 4) = 2 → m ≤ 6) ∧ (¬ (s_lot (s_stir x) 4) = 2 → m ≤ ct P 4)) → MW (yX8_passDrawn.cls, cX8_passDrawn, 7, (some .int), yX8_passDrawn.name, d + 6, 0, 0) 72 (0, 0) [(6, .int ch), (5, .int (s_lot (s_stir x) 4)), (3, .int (s_stir x)), (4, .int (nI i)), (0, .ref s), (1, .int (nI n)), (2, .int x0)] [] (m_bk h s 7 U SL) (m_r (.int (nI (s_dr P n x0 V).1)) (m_bk h s 7 ((s_dr P n x0 V).2) SL)) := by
            intro ch hch hc2
            refine mw_iload 0 dX8_passDrawn_72 rfl ?_
            refine mw_if_le (tgt := 94) dX8_passDrawn_74 (by decide) (fun c74 => ?_) (fun c74 => ?_)
            · have c74 : ¬ 0 < ch := by rw [i32_lt]; rw [i32_le] at c74; omega
              refine mw_sub [3, 2, 4, 5, 6] rfl ?_
              refine J94 _ _ ?_ ?_
              · first | (rw [s_dx, ← hch, if_neg c74]; done) | (rw [s_dx, ← hch, if_pos c74]; done)
              · first | (rw [s_dV, ← hch, if_neg c74]; done) | (rw [s_dV, ← hch, if_pos c74, hm, eq, nI_clamp (by omega)]; done)
            · have c74 : 0 < ch := by rw [i32_lt]; rw [i32_le] at c74; omega
              obtain ⟨m, hm, hm2, hm1⟩ := hc2
              have hm0 : 0 < m := Nat.pos_of_ne_zero (fun e => by rw [hm, e] at c74; exact absurd c74 (by decide))
              have hm31 : m < 2 ^ 31 := (Classical.em (s_lot (s_stir x) 4 = 2)).elim (fun e => by have := hm2 e; omega) (fun e => by have := hm1 e; omega)
              obtain ⟨q, hq, eq⟩ := lot_in (s_stir (s_stir x)) hm0 hm31
              refine mw_iload_n 2 dX8_passDrawn_77 rfl ?_
              refine mw_cS (rest := []) [.int (s_stir x)] (c_X8_stir (d + 4) (m_bk h s 7 U SL) (s_stir x)) mY_X8_stir dX8_passDrawn_78 ml_X8_201 rfl rfl (Nat.le_of_ble_eq_true rfl) ⟨Nat.le_refl _, Nat.le_refl _⟩ rfl ?_
              refine mw_istore_n [(3, .int (s_stir (s_stir x))), (6, .int ch), (5, .int (s_lot (s_stir x) 4)), (4, .int (nI i)), (0, .ref s), (1, .int (nI n)), (2, .int x0)] dX8_passDrawn_81 (Nat.le_of_ble_eq_true rfl) rfl ?_
              refine mw_aload_n 4 dX8_passDrawn_82 rfl ?_
              refine mw_iload 2 dX8_passDrawn_83 rfl ?_
              refine mw_iload_n 0 dX8_passDrawn_85 rfl ?_
              refine mw_iload 1 dX8_passDrawn_86 rfl ?_
              refine mw_cS (rest := [.int (s_lot (s_stir x) 4), .ref s]) [.int (s_stir (s_stir x)), .int ch] (c_X8_lotOf (d + 4) (m_bk h s 7 U SL) (s_stir (s_stir x)) ch) mY_X8_lotOf dX8_passDrawn_88 ml_X8_204 rfl rfl (Nat.le_of_ble_eq_true rfl) ⟨Nat.le_refl _, Nat.le_refl _⟩ rfl ?_
              refine mw_top (x' := (nI q)) (by rw [hm]; exact eq) ?_
              refine mw_cVv (rest := []) [.int (s_lot (s_stir x) 4), .int (nI q)] (c_X8_actByLot d (m_bk h s 7 U SL) s _ P _ hs hp bk_I (bk_O hP (Or.inl hd)) hw bk_J hd hok _ q (fun e => by have := hm2 e; omega) (fun e => by have := hm1 e; omega)) mY_X8_actByLot dX8_passDrawn_91 ml_X8_207 (sa_o hs) rfl rfl (Nat.le_of_ble_eq_true rfl) ⟨Nat.le_refl _, Nat.le_refl _⟩ rfl ?_
              refine mw_hp bk_bk ?_
              refine mw_sub [3, 0, 4, 5, 6] rfl ?_
              refine J94 _ _ ?_ ?_
              · first | (rw [s_dx, ← hch, if_neg c74]; done) | (rw [s_dx, ← hch, if_pos c74]; done)
              · first | (rw [s_dV, ← hch, if_neg c74]; done) | (rw [s_dV, ← hch, if_pos c74, hm, eq, nI_clamp (by omega)]; done)
          refine mw_iload_n 1 dX8_passDrawn_21 rfl ?_
          refine mw_cS (rest := []) [.int x] (c_X8_stir (d + 4) (m_bk h s 7 U SL) x) mY_X8_stir dX8_passDrawn_22 ml_X8_201 rfl rfl (Nat.le_of_ble_eq_true rfl) ⟨Nat.le_refl _, Nat.le_refl _⟩ rfl ?_
          refine mw_istore_n [(3, .int (s_stir x)), (4, .int (nI i)), (0, .ref s), (1, .int (nI n)), (2, .int x0)] dX8_passDrawn_25 (Nat.le_of_ble_eq_true rfl) rfl ?_
          refine mw_iload_n 0 dX8_passDrawn_26 rfl ?_
          refine mw_iconst (v := 4) dX8_passDrawn_27 rfl ?_
          refine mw_cS (rest := []) [.int (s_stir x), .int 4] (c_X8_lotOf (d + 4) (m_bk h s 7 U SL) (s_stir x) 4) mY_X8_lotOf dX8_passDrawn_28 ml_X8_204 rfl rfl (Nat.le_of_ble_eq_true rfl) ⟨Nat.le_refl _, Nat.le_refl _⟩ rfl ?_
          refine mw_istore [(5, .int (s_lot (s_stir x) 4)), (3, .int (s_stir x)), (4, .int (nI i)), (0, .ref s), (1, .int (nI n)), (2, .int x0)] dX8_passDrawn_31 (Nat.le_of_ble_eq_true rfl) rfl ?_
          refine mw_iload 0 dX8_passDrawn_33 rfl ?_
          refine mw_iconst (v := 2) dX8_passDrawn_35 rfl ?_
          refine mw_icmp_ge (tgt := 51) dX8_passDrawn_36 (by decide) (fun c36 => ?_) (fun c36 => ?_)
          · have c36 : ¬ s_lot (s_stir x) 4 < 2 := by rw [i32_lt]; rw [i32_le] at c36; omega
            refine mw_iload 0 dX8_passDrawn_51 rfl ?_
            refine mw_iconst (v := 2) dX8_passDrawn_53 rfl ?_
            refine mw_icmp_ne (tgt := 69) dX8_passDrawn_54 (by decide) (fun c54 => ?_) (fun c54 => ?_)
            · refine mw_iconst (v := 0) dX8_passDrawn_69 rfl ?_
              refine mw_istore [(6, .int 0), (5, .int (s_lot (s_stir x) 4)), (3, .int (s_stir x)), (4, .int (nI i)), (0, .ref s), (1, .int (nI n)), (2, .int x0)] dX8_passDrawn_70 (Nat.le_of_ble_eq_true rfl) rfl ?_
              refine J72 _ ?_ ?_
              · first | (rw [s_ch, if_pos c36, e4]; done) | (rw [s_ch, if_neg c36, if_pos c54, e1]; done) | (rw [s_ch, if_neg c36, if_neg c54]; done)
              · first | exact ⟨_, rfl, fun e => absurd (e ▸ c36) (by decide), fun _ => Nat.le_refl _⟩ | exact ⟨_, rfl, fun _ => g1, fun e => absurd c54 e⟩ | exact ⟨0, rfl, fun e => absurd e c54, fun _ => Nat.zero_le _⟩
            · refine mw_aload_n 3 dX8_passDrawn_57 rfl ?_
              refine mw_getr 8 0 dX8_passDrawn_58 fl_X8_52 (by decide) (by decide) rfl (sa_o hs) (sa_r0 hs) ?_
              refine mw_getr 5 0 dX8_passDrawn_61 fl_X8_71 (by decide) (by decide) rfl (pl_o hp) (pl_r0 hp) ?_
              refine mw_iconst (v := 1) dX8_passDrawn_64 rfl ?_
              refine mw_iaN 1 dX8_passDrawn_65 (pl_a0 hp) (by decide) (by decide) (by decide) ?_
              refine mw_top (x' := (nI (ct P 1))) ((bk_o (j := 1) hP (Or.inl hd) (by decide)).trans e1) ?_
              refine mw_goto (tgt := 70) dX8_passDrawn_66 (by decide) ?_
              refine mw_istore [(6, .int (nI (ct P 1))), (5, .int (s_lot (s_stir x) 4)), (3, .int (s_stir x)), (4, .int (nI i)), (0, .ref s), (1, .int (nI n)), (2, .int x0)] dX8_passDrawn_70 (Nat.le_of_ble_eq_true rfl) rfl ?_
              refine J72 _ ?_ ?_
              · first | (rw [s_ch, if_pos c36, e4]; done) | (rw [s_ch, if_neg c36, if_pos c54, e1]; done) | (rw [s_ch, if_neg c36, if_neg c54]; done)
              · first | exact ⟨_, rfl, fun e => absurd (e ▸ c36) (by decide), fun _ => Nat.le_refl _⟩ | exact ⟨_, rfl, fun _ => g1, fun e => absurd c54 e⟩ | exact ⟨0, rfl, fun e => absurd e c54, fun _ => Nat.zero_le _⟩
          · have c36 : s_lot (s_stir x) 4 < 2 := by rw [i32_lt]; rw [i32_le] at c36; omega
            refine mw_aload_n 3 dX8_passDrawn_39 rfl ?_
            refine mw_getr 8 0 dX8_passDrawn_40 fl_X8_52 (by decide) (by decide) rfl (sa_o hs) (sa_r0 hs) ?_
            refine mw_getr 5 0 dX8_passDrawn_43 fl_X8_71 (by decide) (by decide) rfl (pl_o hp) (pl_r0 hp) ?_
            refine mw_iconst (v := 4) dX8_passDrawn_46 rfl ?_
            refine mw_iaN 4 dX8_passDrawn_47 (pl_a0 hp) (by decide) (by decide) (by decide) ?_
            refine mw_top (x' := (nI (ct P 4))) ((bk_o (j := 1) hP (Or.inl hd) (by decide)).trans e4) ?_
            refine mw_goto (tgt := 70) dX8_passDrawn_48 (by decide) ?_
            refine mw_istore [(6, .int (nI (ct P 4))), (5, .int (s_lot (s_stir x) 4)), (3, .int (s_stir x)), (4, .int (nI i)), (0, .ref s), (1, .int (nI n)), (2, .int x0)] dX8_passDrawn_70 (Nat.le_of_ble_eq_true rfl) rfl ?_
            refine J72 _ ?_ ?_
            · first | (rw [s_ch, if_pos c36, e4]; done) | (rw [s_ch, if_neg c36, if_pos c54, e1]; done) | (rw [s_ch, if_neg c36, if_neg c54]; done)
            · first | exact ⟨_, rfl, fun e => absurd (e ▸ c36) (by decide), fun _ => Nat.le_refl _⟩ | exact ⟨_, rfl, fun _ => g1, fun e => absurd c54 e⟩ | exact ⟨0, rfl, fun e => absurd e c54, fun _ => Nat.zero_le _⟩
  refine L5 _ 0 x0 V ?_ ?_ ?_ (Nat.lt_succ_self _)
  · first | omega | rfl | assumption | (simp_all [bo]; done)
  · exact ho
  · simp
