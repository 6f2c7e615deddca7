set_option maxRecDepth 100000 in
set_option maxHeartbeats 4000000 in
theorem c_X10_isBlank (d : Nat) (h : m_H) (c : Int32) : MC yX10_isBlank cX10_isBlank 1 (some .boolean) (d + 1) 0 0 [.int c] h (m_r (.int (b2 (t_blank c))) h) := by
  refine mc_of (by decide +kernel) (Nat.le_of_ble_eq_true rfl) ?_
  show MW (yX10_isBlank.cls, cX10_isBlank, 1, (some .boolean), yX10_isBlank.name, d + 1, 0, 0) 0 (0, 0) [(0, .int c)] [] h _
  refine mw_iload_n 0 dX10_isBlank_0 rfl ?_
  refine mw_bipush (v := 32) dX10_isBlank_1 (by decide) ?_
  refine mw_icmp_eq (tgt := 12) dX10_isBlank_3 (by decide) (fun c3 => ?_) (fun c3 => ?_)
  · refine mw_iconst (v := 1) dX10_isBlank_12 rfl ?_
    refine mw_goto (tgt := 17) dX10_isBlank_13 (by decide) ?_
    refine mw_ireturn dX10_isBlank_17 rfl rfl ⟨rfl, rfl⟩ ?_
    exact ⟨by simp_all [t_blank, b2, i32_le, i32_lt] <;> omega, rfl⟩
  · refine mw_iload_n 0 dX10_isBlank_6 rfl ?_
    refine mw_bipush (v := 10) dX10_isBlank_7 (by decide) ?_
    refine mw_icmp_ne (tgt := 16) dX10_isBlank_9 (by decide) (fun c9 => ?_) (fun c9 => ?_)
    · refine mw_iconst (v := 0) dX10_isBlank_16 rfl ?_
      refine mw_ireturn dX10_isBlank_17 rfl rfl ⟨rfl, rfl⟩ ?_
      exact ⟨by simp_all [t_blank, b2, i32_le, i32_lt] <;> omega, rfl⟩
    · refine mw_iconst (v := 1) dX10_isBlank_12 rfl ?_
      refine mw_goto (tgt := 17) dX10_isBlank_13 (by decide) ?_
      refine mw_ireturn dX10_isBlank_17 rfl rfl ⟨rfl, rfl⟩ ?_
      exact ⟨by simp_all [t_blank, b2, i32_le, i32_lt] <;> omega, rfl⟩
set_option maxRecDepth 100000 in
set_option maxHeartbeats 4000000 in
theorem c_X10_isLetter (d : Nat) (h : m_H) (c : Int32) : MC yX10_isLetter cX10_isLetter 1 (some .boolean) (d + 1) 0 0 [.int c] h (m_r (.int (b2 (t_letter c))) h) := by
  refine mc_of (by decide +kernel) (Nat.le_of_ble_eq_true rfl) ?_
  show MW (yX10_isLetter.cls, cX10_isLetter, 1, (some .boolean), yX10_isLetter.name, d + 1, 0, 0) 0 (0, 0) [(0, .int c)] [] h _
  refine mw_iload_n 0 dX10_isLetter_0 rfl ?_
  refine mw_bipush (v := 97) dX10_isLetter_1 (by decide) ?_
  refine mw_icmp_lt (tgt := 16) dX10_isLetter_3 (by decide) (fun c3 => ?_) (fun c3 => ?_)
  · refine mw_iconst (v := 0) dX10_isLetter_16 rfl ?_
    refine mw_ireturn dX10_isLetter_17 rfl rfl ⟨rfl, rfl⟩ ?_
    exact ⟨by simp_all [t_letter, b2, i32_le, i32_lt] <;> omega, rfl⟩
  · refine mw_iload_n 0 dX10_isLetter_6 rfl ?_
    refine mw_bipush (v := 122) dX10_isLetter_7 (by decide) ?_
    refine mw_icmp_gt (tgt := 16) dX10_isLetter_9 (by decide) (fun c9 => ?_) (fun c9 => ?_)
    · refine mw_iconst (v := 0) dX10_isLetter_16 rfl ?_
      refine mw_ireturn dX10_isLetter_17 rfl rfl ⟨rfl, rfl⟩ ?_
      exact ⟨by simp_all [t_letter, b2, i32_le, i32_lt] <;> omega, rfl⟩
    · refine mw_iconst (v := 1) dX10_isLetter_12 rfl ?_
      refine mw_goto (tgt := 17) dX10_isLetter_13 (by decide) ?_
      refine mw_ireturn dX10_isLetter_17 rfl rfl ⟨rfl, rfl⟩ ?_
      exact ⟨by simp_all [t_letter, b2, i32_le, i32_lt] <;> omega, rfl⟩
set_option maxRecDepth 100000 in
set_option maxHeartbeats 4000000 in
theorem c_X10_isDigit (d : Nat) (h : m_H) (c : Int32) : MC yX10_isDigit cX10_isDigit 1 (some .boolean) (d + 1) 0 0 [.int c] h (m_r (.int (b2 (t_digit c))) h) := by
  refine mc_of (by decide +kernel) (Nat.le_of_ble_eq_true rfl) ?_
  show MW (yX10_isDigit.cls, cX10_isDigit, 1, (some .boolean), yX10_isDigit.name, d + 1, 0, 0) 0 (0, 0) [(0, .int c)] [] h _
  refine mw_iload_n 0 dX10_isDigit_0 rfl ?_
  refine mw_bipush (v := 48) dX10_isDigit_1 (by decide) ?_
  refine mw_icmp_lt (tgt := 16) dX10_isDigit_3 (by decide) (fun c3 => ?_) (fun c3 => ?_)
  · refine mw_iconst (v := 0) dX10_isDigit_16 rfl ?_
    refine mw_ireturn dX10_isDigit_17 rfl rfl ⟨rfl, rfl⟩ ?_
    exact ⟨by simp_all [t_digit, b2, i32_le, i32_lt] <;> omega, rfl⟩
  · refine mw_iload_n 0 dX10_isDigit_6 rfl ?_
    refine mw_bipush (v := 57) dX10_isDigit_7 (by decide) ?_
    refine mw_icmp_gt (tgt := 16) dX10_isDigit_9 (by decide) (fun c9 => ?_) (fun c9 => ?_)
    · refine mw_iconst (v := 0) dX10_isDigit_16 rfl ?_
      refine mw_ireturn dX10_isDigit_17 rfl rfl ⟨rfl, rfl⟩ ?_
      exact ⟨by simp_all [t_digit, b2, i32_le, i32_lt] <;> omega, rfl⟩
    · refine mw_iconst (v := 1) dX10_isDigit_12 rfl ?_
      refine mw_goto (tgt := 17) dX10_isDigit_13 (by decide) ?_
      refine mw_ireturn dX10_isDigit_17 rfl rfl ⟨rfl, rfl⟩ ?_
      exact ⟨by simp_all [t_digit, b2, i32_le, i32_lt] <;> omega, rfl⟩
def t_add4 (T : m_V) (z : Nat) (x : Int32) : m_V := (u2 (u2 (u2 (u2 (u2 (u2 (u2 (u2 T 1 (z + 0) (us x 24 &&& 255)) 0 1 (nI (z + 1))) 1 (z + 1) (us x 16 &&& 255)) 0 1 (nI (z + 2))) 1 (z + 2) (us x 8 &&& 255)) 0 1 (nI (z + 3))) 1 (z + 3) (us x 0 &&& 255)) 0 1 (nI (z + 4)))
set_option maxRecDepth 100000 in
set_option maxHeartbeats 4000000 in
theorem c_X10_addNumber (d : Nat) (h : m_H) (T : m_V) (X : m_L) (hx : isText h.2.2) (hT : blI h 1 3 T) (hX : blJ h 1 3 X) (z : Nat) (x : Int32) (hz : T 0 1 = nI z) (hz4 : z + 4 ≤ 1460) : MC yX10_addNumber cX10_addNumber 3 none (d + 1) 0 0 [.ref 1, .int x] h (m_rn (m_bk h 1 3 (t_add4 T z x) X)) := by
  refine mc_of (by decide +kernel) (Nat.le_of_ble_eq_true rfl) ?_
  show MW (yX10_addNumber.cls, cX10_addNumber, 3, none, yX10_addNumber.name, d + 1, 0, 0) 0 (0, 0) [(0, .ref 1), (1, .int x)] [] h _
  refine mw_hp (bk_self (n := 3) hT hX) ?_
  refine mw_bipush (v := 24) dX10_addNumber_0 (by decide) ?_
  refine mw_istore_n [(2, .int 24), (0, .ref 1), (1, .int x)] dX10_addNumber_2 (Nat.le_of_ble_eq_true rfl) rfl ?_
  refine mw_iload_n 0 dX10_addNumber_3 rfl ?_
  refine mw_if_lt (tgt := 51) dX10_addNumber_4 (by decide) (fun c4 => ?_) (fun c4 => ?_)
  · exact absurd c4 (by decide)
  · refine mw_aload_n 1 dX10_addNumber_7 rfl ?_
    refine mw_geti 10 1 dX10_addNumber_8 fl_X10_15 (by decide) (by decide) rfl (tx_o hx) ?_
    refine mw_top (x' := (nI (z + 0))) ((bk_i (j := 0) (by decide)).trans hz) ?_
    refine mw_aload_n 1 dX10_addNumber_11 rfl ?_
    refine mw_getr 10 0 dX10_addNumber_12 fl_X10_9 (by decide) (by decide) rfl (tx_o hx) (tx_r0 hx) ?_
    refine mw_alen (t := 0) (by decide) dX10_addNumber_15 (tx_a0 hx) ?_
    refine mw_icmp_ge (tgt := 45) dX10_addNumber_16 (by decide) (fun c16 => ?_) (fun c16 => ?_)
    · exact absurd ((nI_leI (by omega) (by omega)).mp c16) (by omega)
    · refine mw_aload_n 1 dX10_addNumber_19 rfl ?_
      refine mw_getr 10 0 dX10_addNumber_20 fl_X10_9 (by decide) (by decide) rfl (tx_o hx) (tx_r0 hx) ?_
      refine mw_aload_n 1 dX10_addNumber_23 rfl ?_
      refine mw_geti 10 1 dX10_addNumber_24 fl_X10_15 (by decide) (by decide) rfl (tx_o hx) ?_
      refine mw_top (x' := (nI (z + 0))) ((bk_i (j := 0) (by decide)).trans hz) ?_
      refine mw_iload_n 2 dX10_addNumber_27 rfl ?_
      refine mw_iload_n 0 dX10_addNumber_28 rfl ?_
      refine mw_iushr dX10_addNumber_29 ?_
      refine mw_top (x' := us x 24) rfl ?_
      refine mw_sipush (v := 255) dX10_addNumber_30 (by decide) ?_
      refine mw_iand dX10_addNumber_33 ?_
      refine mw_isN (z + 0) dX10_addNumber_34 (tx_a0 hx) (by omega) (by decide) rfl ?_
      refine mw_hp (bk_si (j := 1) (by decide)) ?_
      refine mw_aload_n 1 dX10_addNumber_35 rfl ?_
      refine mw_dup dX10_addNumber_36 rfl ?_
      refine mw_geti 10 1 dX10_addNumber_37 fl_X10_15 (by decide) (by decide) rfl (tx_o hx) ?_
      refine mw_top (x' := (nI (z + 0))) ((bk_i (j := 0) (by decide)).trans hz) ?_
      refine mw_iconst (v := 1) dX10_addNumber_40 rfl ?_
      refine mw_iadd dX10_addNumber_41 ?_
      refine mw_top (x' := (nI (z + 1))) (nI_1 (z + 0)) ?_
      refine mw_puti 10 1 dX10_addNumber_42 fl_X10_15 (by decide) (by decide) rfl rfl (tx_o hx) ⟨rfl, rfl⟩ ?_
      refine mw_hp (bk_si (j := 0) (by decide)) ?_
      refine mw_iinc 0 (16) [(2, .int (16)), (0, .ref 1), (1, .int x)] dX10_addNumber_45 rfl (by decide) (Nat.le_of_ble_eq_true rfl) rfl ?_
      refine mw_goto (tgt := 3) dX10_addNumber_48 (by decide) ?_
      refine mw_iload_n 0 dX10_addNumber_3 rfl ?_
      refine mw_if_lt (tgt := 51) dX10_addNumber_4 (by decide) (fun c4 => ?_) (fun c4 => ?_)
      · exact absurd c4 (by decide)
      · refine mw_aload_n 1 dX10_addNumber_7 rfl ?_
        refine mw_geti 10 1 dX10_addNumber_8 fl_X10_15 (by decide) (by decide) rfl (tx_o hx) ?_
        refine mw_top (x' := (nI (z + 1))) (bk_i (j := 0) (by decide)) ?_
        refine mw_aload_n 1 dX10_addNumber_11 rfl ?_
        refine mw_getr 10 0 dX10_addNumber_12 fl_X10_9 (by decide) (by decide) rfl (tx_o hx) (tx_r0 hx) ?_
        refine mw_alen (t := 0) (by decide) dX10_addNumber_15 (tx_a0 hx) ?_
        refine mw_icmp_ge (tgt := 45) dX10_addNumber_16 (by decide) (fun c16 => ?_) (fun c16 => ?_)
        · exact absurd ((nI_leI (by omega) (by omega)).mp c16) (by omega)
        · refine mw_aload_n 1 dX10_addNumber_19 rfl ?_
          refine mw_getr 10 0 dX10_addNumber_20 fl_X10_9 (by decide) (by decide) rfl (tx_o hx) (tx_r0 hx) ?_
          refine mw_aload_n 1 dX10_addNumber_23 rfl ?_
          refine mw_geti 10 1 dX10_addNumber_24 fl_X10_15 (by decide) (by decide) rfl (tx_o hx) ?_
          refine mw_top (x' := (nI (z + 1))) (bk_i (j := 0) (by decide)) ?_
          refine mw_iload_n 2 dX10_addNumber_27 rfl ?_
          refine mw_iload_n 0 dX10_addNumber_28 rfl ?_
          refine mw_iushr dX10_addNumber_29 ?_
          refine mw_top (x' := us x 16) rfl ?_
          refine mw_sipush (v := 255) dX10_addNumber_30 (by decide) ?_
          refine mw_iand dX10_addNumber_33 ?_
          refine mw_isN (z + 1) dX10_addNumber_34 (tx_a0 hx) (by omega) (by decide) rfl ?_
          refine mw_hp (bk_si (j := 1) (by decide)) ?_
          refine mw_aload_n 1 dX10_addNumber_35 rfl ?_
          refine mw_dup dX10_addNumber_36 rfl ?_
          refine mw_geti 10 1 dX10_addNumber_37 fl_X10_15 (by decide) (by decide) rfl (tx_o hx) ?_
          refine mw_top (x' := (nI (z + 1))) (bk_i (j := 0) (by decide)) ?_
          refine mw_iconst (v := 1) dX10_addNumber_40 rfl ?_
          refine mw_iadd dX10_addNumber_41 ?_
          refine mw_top (x' := (nI (z + 2))) (nI_1 (z + 1)) ?_
          refine mw_puti 10 1 dX10_addNumber_42 fl_X10_15 (by decide) (by decide) rfl rfl (tx_o hx) ⟨rfl, rfl⟩ ?_
          refine mw_hp (bk_si (j := 0) (by decide)) ?_
          refine mw_iinc 0 (8) [(2, .int (8)), (0, .ref 1), (1, .int x)] dX10_addNumber_45 rfl (by decide) (Nat.le_of_ble_eq_true rfl) rfl ?_
          refine mw_goto (tgt := 3) dX10_addNumber_48 (by decide) ?_
          refine mw_iload_n 0 dX10_addNumber_3 rfl ?_
          refine mw_if_lt (tgt := 51) dX10_addNumber_4 (by decide) (fun c4 => ?_) (fun c4 => ?_)
          · exact absurd c4 (by decide)
          · refine mw_aload_n 1 dX10_addNumber_7 rfl ?_
            refine mw_geti 10 1 dX10_addNumber_8 fl_X10_15 (by decide) (by decide) rfl (tx_o hx) ?_
            refine mw_top (x' := (nI (z + 2))) (bk_i (j := 0) (by decide)) ?_
            refine mw_aload_n 1 dX10_addNumber_11 rfl ?_
            refine mw_getr 10 0 dX10_addNumber_12 fl_X10_9 (by decide) (by decide) rfl (tx_o hx) (tx_r0 hx) ?_
            refine mw_alen (t := 0) (by decide) dX10_addNumber_15 (tx_a0 hx) ?_
            refine mw_icmp_ge (tgt := 45) dX10_addNumber_16 (by decide) (fun c16 => ?_) (fun c16 => ?_)
            · exact absurd ((nI_leI (by omega) (by omega)).mp c16) (by omega)
            · refine mw_aload_n 1 dX10_addNumber_19 rfl ?_
              refine mw_getr 10 0 dX10_addNumber_20 fl_X10_9 (by decide) (by decide) rfl (tx_o hx) (tx_r0 hx) ?_
              refine mw_aload_n 1 dX10_addNumber_23 rfl ?_
              refine mw_geti 10 1 dX10_addNumber_24 fl_X10_15 (by decide) (by decide) rfl (tx_o hx) ?_
              refine mw_top (x' := (nI (z + 2))) (bk_i (j := 0) (by decide)) ?_
              refine mw_iload_n 2 dX10_addNumber_27 rfl ?_
              refine mw_iload_n 0 dX10_addNumber_28 rfl ?_
              refine mw_iushr dX10_addNumber_29 ?_
              refine mw_top (x' := us x 8) rfl ?_
              refine mw_sipush (v := 255) dX10_addNumber_30 (by decide) ?_
              refine mw_iand dX10_addNumber_33 ?_
              refine mw_isN (z + 2) dX10_addNumber_34 (tx_a0 hx) (by omega) (by decide) rfl ?_
              refine mw_hp (bk_si (j := 1) (by decide)) ?_
              refine mw_aload_n 1 dX10_addNumber_35 rfl ?_
              refine mw_dup dX10_addNumber_36 rfl ?_
              refine mw_geti 10 1 dX10_addNumber_37 fl_X10_15 (by decide) (by decide) rfl (tx_o hx) ?_
              refine mw_top (x' := (nI (z + 2))) (bk_i (j := 0) (by decide)) ?_
              refine mw_iconst (v := 1) dX10_addNumber_40 rfl ?_
              refine mw_iadd dX10_addNumber_41 ?_
              refine mw_top (x' := (nI (z + 3))) (nI_1 (z + 2)) ?_
              refine mw_puti 10 1 dX10_addNumber_42 fl_X10_15 (by decide) (by decide) rfl rfl (tx_o hx) ⟨rfl, rfl⟩ ?_
              refine mw_hp (bk_si (j := 0) (by decide)) ?_
              refine mw_iinc 0 (0) [(2, .int (0)), (0, .ref 1), (1, .int x)] dX10_addNumber_45 rfl (by decide) (Nat.le_of_ble_eq_true rfl) rfl ?_
              refine mw_goto (tgt := 3) dX10_addNumber_48 (by decide) ?_
              refine mw_iload_n 0 dX10_addNumber_3 rfl ?_
              refine mw_if_lt (tgt := 51) dX10_addNumber_4 (by decide) (fun c4 => ?_) (fun c4 => ?_)
              · exact absurd c4 (by decide)
              · refine mw_aload_n 1 dX10_addNumber_7 rfl ?_
                refine mw_geti 10 1 dX10_addNumber_8 fl_X10_15 (by decide) (by decide) rfl (tx_o hx) ?_
                refine mw_top (x' := (nI (z + 3))) (bk_i (j := 0) (by decide)) ?_
                refine mw_aload_n 1 dX10_addNumber_11 rfl ?_
                refine mw_getr 10 0 dX10_addNumber_12 fl_X10_9 (by decide) (by decide) rfl (tx_o hx) (tx_r0 hx) ?_
                refine mw_alen (t := 0) (by decide) dX10_addNumber_15 (tx_a0 hx) ?_
                refine mw_icmp_ge (tgt := 45) dX10_addNumber_16 (by decide) (fun c16 => ?_) (fun c16 => ?_)
                · exact absurd ((nI_leI (by omega) (by omega)).mp c16) (by omega)
                · refine mw_aload_n 1 dX10_addNumber_19 rfl ?_
                  refine mw_getr 10 0 dX10_addNumber_20 fl_X10_9 (by decide) (by decide) rfl (tx_o hx) (tx_r0 hx) ?_
                  refine mw_aload_n 1 dX10_addNumber_23 rfl ?_
                  refine mw_geti 10 1 dX10_addNumber_24 fl_X10_15 (by decide) (by decide) rfl (tx_o hx) ?_
                  refine mw_top (x' := (nI (z + 3))) (bk_i (j := 0) (by decide)) ?_
                  refine mw_iload_n 2 dX10_addNumber_27 rfl ?_
                  refine mw_iload_n 0 dX10_addNumber_28 rfl ?_
                  refine mw_iushr dX10_addNumber_29 ?_
                  refine mw_top (x' := us x 0) rfl ?_
                  refine mw_sipush (v := 255) dX10_addNumber_30 (by decide) ?_
                  refine mw_iand dX10_addNumber_33 ?_
                  refine mw_isN (z + 3) dX10_addNumber_34 (tx_a0 hx) (by omega) (by decide) rfl ?_
                  refine mw_hp (bk_si (j := 1) (by decide)) ?_
                  refine mw_aload_n 1 dX10_addNumber_35 rfl ?_
                  refine mw_dup dX10_addNumber_36 rfl ?_
                  refine mw_geti 10 1 dX10_addNumber_37 fl_X10_15 (by decide) (by decide) rfl (tx_o hx) ?_
                  refine mw_top (x' := (nI (z + 3))) (bk_i (j := 0) (by decide)) ?_
                  refine mw_iconst (v := 1) dX10_addNumber_40 rfl ?_
                  refine mw_iadd dX10_addNumber_41 ?_
                  refine mw_top (x' := (nI (z + 4))) (nI_1 (z + 3)) ?_
                  refine mw_puti 10 1 dX10_addNumber_42 fl_X10_15 (by decide) (by decide) rfl rfl (tx_o hx) ⟨rfl, rfl⟩ ?_
                  refine mw_hp (bk_si (j := 0) (by decide)) ?_
                  refine mw_iinc 0 ((-8)) [(2, .int ((-8))), (0, .ref 1), (1, .int x)] dX10_addNumber_45 rfl (by decide) (Nat.le_of_ble_eq_true rfl) rfl ?_
                  refine mw_goto (tgt := 3) dX10_addNumber_48 (by decide) ?_
                  refine mw_iload_n 0 dX10_addNumber_3 rfl ?_
                  refine mw_if_lt (tgt := 51) dX10_addNumber_4 (by decide) (fun c4 => ?_) (fun c4 => ?_)
                  · refine mw_return dX10_addNumber_51 rfl ⟨rfl, rfl⟩ ?_
                    exact ⟨rfl, rfl⟩
                  · exact absurd (by decide) c4
def t_begin (T : m_V) (m : Int32) : m_V := u2 (u2 (u2 (u2 T 0 2 m) 0 3 0) 0 9 0) 0 10 0
set_option maxRecDepth 100000 in
set_option maxHeartbeats 4000000 in
theorem c_X10_begin (d : Nat) (h : m_H) (T : m_V) (X : m_L) (hx : isText h.2.2) (hT : blI h 1 3 T) (hX : blJ h 1 3 X) (m : Int32) : MC yX10_begin cX10_begin 2 none (d + 1) 0 0 [.ref 1, .int m] h (m_rn (m_bk h 1 3 (t_begin T m) X)) := by
  refine mc_of (by decide +kernel) (Nat.le_of_ble_eq_true rfl) ?_
  show MW (yX10_begin.cls, cX10_begin, 2, none, yX10_begin.name, d + 1, 0, 0) 0 (0, 0) [(0, .ref 1), (1, .int m)] [] h _
  refine mw_hp (bk_self (n := 3) hT hX) ?_
  refine mw_aload_n 0 dX10_begin_0 rfl ?_
  refine mw_iload_n 1 dX10_begin_1 rfl ?_
  refine mw_puti 10 2 dX10_begin_2 fl_X10_19 (by decide) (by decide) rfl rfl (tx_o hx) ⟨rfl, rfl⟩ ?_
  refine mw_hp (bk_si (j := 0) (by decide)) ?_
  refine mw_aload_n 0 dX10_begin_5 rfl ?_
  refine mw_iconst (v := 0) dX10_begin_6 rfl ?_
  refine mw_puti 10 3 dX10_begin_7 fl_X10_22 (by decide) (by decide) rfl rfl (tx_o hx) ⟨rfl, rfl⟩ ?_
  refine mw_hp (bk_si (j := 0) (by decide)) ?_
  refine mw_aload_n 0 dX10_begin_10 rfl ?_
  refine mw_iconst (v := 0) dX10_begin_11 rfl ?_
  refine mw_puti 10 9 dX10_begin_12 fl_X10_41 (by decide) (by decide) rfl rfl (tx_o hx) ⟨rfl, rfl⟩ ?_
  refine mw_hp (bk_si (j := 0) (by decide)) ?_
  refine mw_aload_n 0 dX10_begin_15 rfl ?_
  refine mw_iconst (v := 0) dX10_begin_16 rfl ?_
  refine mw_puti 10 10 dX10_begin_17 fl_X10_44 (by decide) (by decide) rfl rfl (tx_o hx) ⟨rfl, rfl⟩ ?_
  refine mw_hp (bk_si (j := 0) (by decide)) ?_
  refine mw_return dX10_begin_20 rfl ⟨rfl, rfl⟩ ?_
  exact ⟨rfl, rfl⟩
def t_wrong (T : m_V) (w : Int32) : m_V := u2 (u2 T 0 9 w) 0 10 (T 0 5)
set_option maxRecDepth 100000 in
set_option maxHeartbeats 4000000 in
theorem c_X10_wrong (d : Nat) (h : m_H) (T : m_V) (X : m_L) (hx : isText h.2.2) (hT : blI h 1 3 T) (hX : blJ h 1 3 X) (w : Int32) : MC yX10_wrong cX10_wrong 2 (some .boolean) (d + 1) 0 0 [.ref 1, .int w] h (m_r (.int (0)) (m_bk h 1 3 (t_wrong T w) X)) := by
  refine mc_of (by decide +kernel) (Nat.le_of_ble_eq_true rfl) ?_
  show MW (yX10_wrong.cls, cX10_wrong, 2, (some .boolean), yX10_wrong.name, d + 1, 0, 0) 0 (0, 0) [(0, .ref 1), (1, .int w)] [] h _
  refine mw_hp (bk_self (n := 3) hT hX) ?_
  refine mw_aload_n 0 dX10_wrong_0 rfl ?_
  refine mw_iload_n 1 dX10_wrong_1 rfl ?_
  refine mw_puti 10 9 dX10_wrong_2 fl_X10_41 (by decide) (by decide) rfl rfl (tx_o hx) ⟨rfl, rfl⟩ ?_
  refine mw_hp (bk_si (j := 0) (by decide)) ?_
  refine mw_aload_n 0 dX10_wrong_5 rfl ?_
  refine mw_aload_n 0 dX10_wrong_6 rfl ?_
  refine mw_geti 10 5 dX10_wrong_7 fl_X10_28 (by decide) (by decide) rfl (tx_o hx) ?_
  refine mw_top (x' := (T 0 5)) (bk_i (j := 0) (by decide)) ?_
  refine mw_puti 10 10 dX10_wrong_10 fl_X10_44 (by decide) (by decide) rfl rfl (tx_o hx) ⟨rfl, rfl⟩ ?_
  refine mw_hp (bk_si (j := 0) (by decide)) ?_
  refine mw_iconst (v := 0) dX10_wrong_13 rfl ?_
  refine mw_ireturn dX10_wrong_14 rfl rfl ⟨rfl, rfl⟩ ?_
  exact ⟨rfl, rfl⟩
def t_isSign (T : m_V) (c : Int32) : Bool := decide (T 0 4 = 3 ∧ T 0 6 = c)
set_option maxRecDepth 100000 in
set_option maxHeartbeats 4000000 in
theorem c_X10_isSign (d : Nat) (h : m_H) (T : m_V) (X : m_L) (hx : isText h.2.2) (hT : blI h 1 3 T) (hX : blJ h 1 3 X) (c : Int32) : MC yX10_isSign cX10_isSign 2 (some .boolean) (d + 1) 0 0 [.ref 1, .int c] h (m_r (.int (b2 (t_isSign T c))) h) := by
  refine mc_of (by decide +kernel) (Nat.le_of_ble_eq_true rfl) ?_
  show MW (yX10_isSign.cls, cX10_isSign, 2, (some .boolean), yX10_isSign.name, d + 1, 0, 0) 0 (0, 0) [(0, .ref 1), (1, .int c)] [] h _
  refine mw_aload_n 0 dX10_isSign_0 rfl ?_
  refine mw_geti 10 4 dX10_isSign_1 fl_X10_25 (by decide) (by decide) rfl (tx_o hx) ?_
  refine mw_top (x' := (T 0 4)) (hT 0 4 (by decide)) ?_
  refine mw_iconst (v := 3) dX10_isSign_4 rfl ?_
  refine mw_icmp_ne (tgt := 20) dX10_isSign_5 (by decide) (fun c5 => ?_) (fun c5 => ?_)
  · refine mw_iconst (v := 0) dX10_isSign_20 rfl ?_
    refine mw_ireturn dX10_isSign_21 rfl rfl ⟨rfl, rfl⟩ ?_
    exact ⟨by simp [t_isSign, b2, *], rfl⟩
  · refine mw_aload_n 0 dX10_isSign_8 rfl ?_
    refine mw_geti 10 6 dX10_isSign_9 fl_X10_31 (by decide) (by decide) rfl (tx_o hx) ?_
    refine mw_top (x' := (T 0 6)) (hT 0 6 (by decide)) ?_
    refine mw_iload_n 1 dX10_isSign_12 rfl ?_
    refine mw_icmp_ne (tgt := 20) dX10_isSign_13 (by decide) (fun c13 => ?_) (fun c13 => ?_)
    · refine mw_iconst (v := 0) dX10_isSign_20 rfl ?_
      refine mw_ireturn dX10_isSign_21 rfl rfl ⟨rfl, rfl⟩ ?_
      exact ⟨by simp [t_isSign, b2, *], rfl⟩
    · refine mw_iconst (v := 1) dX10_isSign_16 rfl ?_
      refine mw_goto (tgt := 21) dX10_isSign_17 (by decide) ?_
      refine mw_ireturn dX10_isSign_21 rfl rfl ⟨rfl, rfl⟩ ?_
      exact ⟨by simp [t_isSign, b2, *], rfl⟩
def t_mustV (T : m_V) (c : Int32) : m_V := if t_isSign T c then T else t_wrong T 1
set_option maxRecDepth 100000 in
set_option maxHeartbeats 4000000 in
theorem c_X10_mustBe (d : Nat) (h : m_H) (T : m_V) (X : m_L) (hx : isText h.2.2) (hT : blI h 1 3 T) (hX : blJ h 1 3 X) (c : Int32) : MC yX10_mustBe cX10_mustBe 2 (some .boolean) (d + 2) 0 0 [.ref 1, .int c] h (m_r (.int (b2 (t_isSign T c))) (m_bk h 1 3 (t_mustV T c) X)) := by
  refine mc_of (by decide +kernel) (Nat.le_of_ble_eq_true rfl) ?_
  show MW (yX10_mustBe.cls, cX10_mustBe, 2, (some .boolean), yX10_mustBe.name, d + 2, 0, 0) 0 (0, 0) [(0, .ref 1), (1, .int c)] [] h _
  refine mw_hp (bk_self (n := 3) hT hX) ?_
  refine mw_aload_n 0 dX10_mustBe_0 rfl ?_
  refine mw_iload_n 1 dX10_mustBe_1 rfl ?_
  refine mw_cV (rest := []) [.int c] (c_X10_isSign d (m_bk h 1 3 T X) _ _ hx bk_I bk_J c) mY_X10_isSign dX10_mustBe_2 ml_X10_88 (tx_o hx) rfl rfl (Nat.le_of_ble_eq_true rfl) ⟨Nat.le_refl _, Nat.le_refl _⟩ rfl ?_
  refine mw_if_ne (tgt := 16) dX10_mustBe_5 (by decide) (fun c5 => ?_) (fun c5 => ?_)
  · have c5 : t_isSign T c = true := by revert c5; cases t_isSign T c <;> simp [b2]
    refine mw_iconst (v := 1) dX10_mustBe_16 rfl ?_
    refine mw_goto (tgt := 21) dX10_mustBe_17 (by decide) ?_
    refine mw_ireturn dX10_mustBe_21 rfl rfl ⟨rfl, rfl⟩ ?_
    exact ⟨by simp [c5, b2], by simp [t_mustV, c5]⟩
  · have c5 : t_isSign T c = false := by revert c5; cases t_isSign T c <;> simp [b2]
    refine mw_aload_n 0 dX10_mustBe_8 rfl ?_
    refine mw_iconst (v := 1) dX10_mustBe_9 rfl ?_
    refine mw_cV (rest := []) [.int 1] (c_X10_wrong d (m_bk h 1 3 T X) _ _ hx bk_I bk_J 1) mY_X10_wrong dX10_mustBe_10 ml_X10_92 (tx_o hx) rfl rfl (Nat.le_of_ble_eq_true rfl) ⟨Nat.le_refl _, Nat.le_refl _⟩ rfl ?_
    refine mw_hp bk_bk ?_
    refine mw_if_eq (tgt := 20) dX10_mustBe_13 (by decide) (fun c13 => ?_) (fun c13 => ?_)
    · refine mw_iconst (v := 0) dX10_mustBe_20 rfl ?_
      refine mw_ireturn dX10_mustBe_21 rfl rfl ⟨rfl, rfl⟩ ?_
      exact ⟨by simp [c5, b2], by simp [t_mustV, c5]⟩
    · exact absurd rfl c13
