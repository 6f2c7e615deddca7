theorem nl_X5_79 : (RX5, 79, yX11_copyRow) ∈ m_nest := by decide +kernel
theorem nl_X8_67 : (RX8, 67, yX11_copyRow) ∈ m_nest := by decide +kernel
theorem nl_X7_35 : (RX7, 35, yX11_copyRow) ∈ m_nest := by decide +kernel
theorem nl_X0_75 : (RX0, 75, yX11_sortOfAct) ∈ m_nest := by decide +kernel
theorem bk_acl {h : m_H} {b n p m j i N : Nat} {V : m_V} {L M : m_L} (hO : blJ h p m M) (ho : p + m ≤ b ∨ b + n ≤ p) (hi : i < m) (hj : j < n) (hN : N < 2 ^ 31) : m_cl' (m_bk h b n V L) (b + j) (va_cpy ((m_bk h b n V L).2.1 (p + i)) ((m_bk h b n V L).2.1 (b + j)) (0 : Int32).toNatClampNeg (0 : Int32).toNatClampNeg (nI N).toNatClampNeg) = m_bk h b n V (u1l L j (cpyl N (M i) (L j))) := by
  rw [nI_clamp hN, show (0 : Int32).toNatClampNeg = 0 from rfl, va_cpy0]
  exact bk_copyl hO ho hi hj
def p_copy (O P : m_V) : m_V := (u1 (u1 (u1 (u1 (u1 (u1 (u1 (u1 (u1 (u1 (u1 (u1 (u1 (u1 (u1 (u1 (u1 (u1 (u1 P 1 (cpy 8 (O 1) (P 1))) 3 (cpy 12 (O 3) (P 3))) 4 (cpy 6 (O 4) (P 4))) 5 (cpy 16 (O 5) (P 5))) 6 (cpy 16 (O 6) (P 6))) 7 (cpy 16 (O 7) (P 7))) 8 (cpy 16 (O 8) (P 8))) 9 (cpy 8 (O 9) (P 9))) 10 (cpy 8 (O 10) (P 10))) 11 (cpy 10 (O 11) (P 11))) 12 (cpy 10 (O 12) (P 12))) 13 (cpy 60 (O 13) (P 13))) 14 (cpy 10 (O 14) (P 14))) 15 (cpy 10 (O 15) (P 15))) 16 (cpy 10 (O 16) (P 16))) 17 (cpy 10 (O 17) (P 17))) 18 (cpy 10 (O 18) (P 18))) 19 (cpy 5 (O 19) (P 19))) 20 (cpy 5 (O 20) (P 20)))
def p_copyN (M N : m_L) : m_L := u1l N 2 (cpyl 96 (M 2) (N 2))
set_option maxRecDepth 100000 in
set_option maxHeartbeats 4000000 in
theorem c_X5_copyFrom (d : Nat) (h : m_H) (p q : Nat) (P O : m_V) (N M : m_L) (hp : isPlan h.2.2 p) (hq : isPlan h.2.2 q) (hP : blI h p 21 P) (hL : blJ h p 21 N) (hO : blI h q 21 O) (hM : blJ h q 21 M) (hd : q + 21 ≤ p ∨ p + 21 ≤ q) : MC yX5_copyFrom cX5_copyFrom 2 none (d + 2) 0 0 [.ref p, .ref q] h (m_rn (m_bk h p 21 (p_copy O P) (p_copyN M N))) := by
  refine mc_of (by decide +kernel) (Nat.le_of_ble_eq_true rfl) ?_
  show MW (yX5_copyFrom.cls, cX5_copyFrom, 2, none, yX5_copyFrom.name, d + 2, 0, 0) 0 (0, 0) [(0, .ref p), (1, .ref q)] [] h _
  refine mw_hp (bk_self (n := 21) hP hL) ?_
  refine mw_aload_n 1 dX5_copyFrom_0 rfl ?_
  refine mw_getr 5 0 dX5_copyFrom_1 fl_X5_9 (by decide) (by decide) rfl (pl_o hq) (pl_r0 hq) ?_
  refine mw_aload_n 0 dX5_copyFrom_4 rfl ?_
  refine mw_getr 5 0 dX5_copyFrom_5 fl_X5_9 (by decide) (by decide) rfl (pl_o hp) (pl_r0 hp) ?_
  refine mw_cSNv (rest := []) [.ref (q + 1), .ref (p + 1)] (c_X11_copyRow d (m_bk h p 21 P N) (q + 1) (p + 1) 8 (pl_a0 hq) (pl_a0 hp) (by decide)) mY_X11_copyRow dX5_copyFrom_8 nl_X5_79 rfl rfl (Nat.le_of_ble_eq_true rfl) ⟨Nat.le_refl _, Nat.le_refl _⟩ rfl ?_
  refine mw_hp (bk_copy (i := 1) (j := 1) hO hd (by decide) (by decide)) ?_
  generalize hv1 : u1 P 1 (cpy 8 (O 1) (P 1)) = W1
  refine mw_aload_n 1 dX5_copyFrom_11 rfl ?_
  refine mw_getr 5 1 dX5_copyFrom_12 fl_X5_15 (by decide) (by decide) rfl (pl_o hq) (pl_r1 hq) ?_
  refine mw_iconst (v := 0) dX5_copyFrom_15 rfl ?_
  refine mw_aload_n 0 dX5_copyFrom_16 rfl ?_
  refine mw_getr 5 1 dX5_copyFrom_17 fl_X5_15 (by decide) (by decide) rfl (pl_o hp) (pl_r1 hp) ?_
  refine mw_iconst (v := 0) dX5_copyFrom_20 rfl ?_
  refine mw_aload_n 0 dX5_copyFrom_21 rfl ?_
  refine mw_getr 5 1 dX5_copyFrom_22 fl_X5_15 (by decide) (by decide) rfl (pl_o hp) (pl_r1 hp) ?_
  refine mw_alen (t := 1) (by decide) dX5_copyFrom_25 (pl_a1 hp) ?_
  refine mw_copyl dX5_copyFrom_26 ml_X5_83 nl_acopy sl_acopy in_System (pl_a1 hq) (pl_a1 hp) (by decide) (by decide) (by decide) (by decide) (by decide) (by show 1 ≤ d + _; omega) (Nat.le_of_ble_eq_true rfl) ?_
  refine mw_hp (bk_acl (N := 96) (i := 2) (j := 2) hM hd (by decide) (by decide) (by decide)) ?_
  refine mw_aload_n 1 dX5_copyFrom_29 rfl ?_
  refine mw_getr 5 2 dX5_copyFrom_30 fl_X5_19 (by decide) (by decide) rfl (pl_o hq) (pl_r2 hq) ?_
  refine mw_aload_n 0 dX5_copyFrom_33 rfl ?_
  refine mw_getr 5 2 dX5_copyFrom_34 fl_X5_19 (by decide) (by decide) rfl (pl_o hp) (pl_r2 hp) ?_
  refine mw_cSNv (rest := []) [.ref (q + 3), .ref (p + 3)] (c_X11_copyRow d (m_bk h p 21 W1 (u1l N 2 (cpyl 96 (M 2) (N 2)))) (q + 3) (p + 3) 12 (pl_a2 hq) (pl_a2 hp) (by decide)) mY_X11_copyRow dX5_copyFrom_37 nl_X5_79 rfl rfl (Nat.le_of_ble_eq_true rfl) ⟨Nat.le_refl _, Nat.le_refl _⟩ rfl ?_
  refine mw_hp (bk_copy (i := 3) (j := 3) hO hd (by decide) (by decide)) ?_
  generalize hv2 : u1 W1 3 (cpy 12 (O 3) (W1 3)) = W2
  refine mw_aload_n 1 dX5_copyFrom_40 rfl ?_
  refine mw_getr 5 3 dX5_copyFrom_41 fl_X5_22 (by decide) (by decide) rfl (pl_o hq) (pl_r3 hq) ?_
  refine mw_aload_n 0 dX5_copyFrom_44 rfl ?_
  refine mw_getr 5 3 dX5_copyFrom_45 fl_X5_22 (by decide) (by decide) rfl (pl_o hp) (pl_r3 hp) ?_
  refine mw_cSNv (rest := []) [.ref (q + 4), .ref (p + 4)] (c_X11_copyRow d (m_bk h p 21 W2 (u1l N 2 (cpyl 96 (M 2) (N 2)))) (q + 4) (p + 4) 6 (pl_a3 hq) (pl_a3 hp) (by decide)) mY_X11_copyRow dX5_copyFrom_48 nl_X5_79 rfl rfl (Nat.le_of_ble_eq_true rfl) ⟨Nat.le_refl _, Nat.le_refl _⟩ rfl ?_
  refine mw_hp (bk_copy (i := 4) (j := 4) hO hd (by decide) (by decide)) ?_
  generalize hv3 : u1 W2 4 (cpy 6 (O 4) (W2 4)) = W3
  refine mw_aload_n 1 dX5_copyFrom_51 rfl ?_
  refine mw_getr 5 4 dX5_copyFrom_52 fl_X5_25 (by decide) (by decide) rfl (pl_o hq) (pl_r4 hq) ?_
  refine mw_aload_n 0 dX5_copyFrom_55 rfl ?_
  refine mw_getr 5 4 dX5_copyFrom_56 fl_X5_25 (by decide) (by decide) rfl (pl_o hp) (pl_r4 hp) ?_
  refine mw_cSNv (rest := []) [.ref (q + 5), .ref (p + 5)] (c_X11_copyRow d (m_bk h p 21 W3 (u1l N 2 (cpyl 96 (M 2) (N 2)))) (q + 5) (p + 5) 16 (pl_a4 hq) (pl_a4 hp) (by decide)) mY_X11_copyRow dX5_copyFrom_59 nl_X5_79 rfl rfl (Nat.le_of_ble_eq_true rfl) ⟨Nat.le_refl _, Nat.le_refl _⟩ rfl ?_
  refine mw_hp (bk_copy (i := 5) (j := 5) hO hd (by decide) (by decide)) ?_
  generalize hv4 : u1 W3 5 (cpy 16 (O 5) (W3 5)) = W4
  refine mw_aload_n 1 dX5_copyFrom_62 rfl ?_
  refine mw_getr 5 5 dX5_copyFrom_63 fl_X5_28 (by decide) (by decide) rfl (pl_o hq) (pl_r5 hq) ?_
  refine mw_aload_n 0 dX5_copyFrom_66 rfl ?_
  refine mw_getr 5 5 dX5_copyFrom_67 fl_X5_28 (by decide) (by decide) rfl (pl_o hp) (pl_r5 hp) ?_
  refine mw_cSNv (rest := []) [.ref (q + 6), .ref (p + 6)] (c_X11_copyRow d (m_bk h p 21 W4 (u1l N 2 (cpyl 96 (M 2) (N 2)))) (q + 6) (p + 6) 16 (pl_a5 hq) (pl_a5 hp) (by decide)) mY_X11_copyRow dX5_copyFrom_70 nl_X5_79 rfl rfl (Nat.le_of_ble_eq_true rfl) ⟨Nat.le_refl _, Nat.le_refl _⟩ rfl ?_
  refine mw_hp (bk_copy (i := 6) (j := 6) hO hd (by decide) (by decide)) ?_
  generalize hv5 : u1 W4 6 (cpy 16 (O 6) (W4 6)) = W5
  refine mw_aload_n 1 dX5_copyFrom_73 rfl ?_
  refine mw_getr 5 6 dX5_copyFrom_74 fl_X5_31 (by decide) (by decide) rfl (pl_o hq) (pl_r6 hq) ?_
  refine mw_aload_n 0 dX5_copyFrom_77 rfl ?_
  refine mw_getr 5 6 dX5_copyFrom_78 fl_X5_31 (by decide) (by decide) rfl (pl_o hp) (pl_r6 hp) ?_
  refine mw_cSNv (rest := []) [.ref (q + 7), .ref (p + 7)] (c_X11_copyRow d (m_bk h p 21 W5 (u1l N 2 (cpyl 96 (M 2) (N 2)))) (q + 7) (p + 7) 16 (pl_a6 hq) (pl_a6 hp) (by decide)) mY_X11_copyRow dX5_copyFrom_81 nl_X5_79 rfl rfl (Nat.le_of_ble_eq_true rfl) ⟨Nat.le_refl _, Nat.le_refl _⟩ rfl ?_
  refine mw_hp (bk_copy (i := 7) (j := 7) hO hd (by decide) (by decide)) ?_
  generalize hv6 : u1 W5 7 (cpy 16 (O 7) (W5 7)) = W6
  refine mw_aload_n 1 dX5_copyFrom_84 rfl ?_
  refine mw_getr 5 7 dX5_copyFrom_85 fl_X5_34 (by decide) (by decide) rfl (pl_o hq) (pl_r7 hq) ?_
  refine mw_aload_n 0 dX5_copyFrom_88 rfl ?_
  refine mw_getr 5 7 dX5_copyFrom_89 fl_X5_34 (by decide) (by decide) rfl (pl_o hp) (pl_r7 hp) ?_
  refine mw_cSNv (rest := []) [.ref (q + 8), .ref (p + 8)] (c_X11_copyRow d (m_bk h p 21 W6 (u1l N 2 (cpyl 96 (M 2) (N 2)))) (q + 8) (p + 8) 16 (pl_a7 hq) (pl_a7 hp) (by decide)) mY_X11_copyRow dX5_copyFrom_92 nl_X5_79 rfl rfl (Nat.le_of_ble_eq_true rfl) ⟨Nat.le_refl _, Nat.le_refl _⟩ rfl ?_
  refine mw_hp (bk_copy (i := 8) (j := 8) hO hd (by decide) (by decide)) ?_
  generalize hv7 : u1 W6 8 (cpy 16 (O 8) (W6 8)) = W7
  refine mw_aload_n 1 dX5_copyFrom_95 rfl ?_
  refine mw_getr 5 8 dX5_copyFrom_96 fl_X5_37 (by decide) (by decide) rfl (pl_o hq) (pl_r8 hq) ?_
  refine mw_aload_n 0 dX5_copyFrom_99 rfl ?_
  refine mw_getr 5 8 dX5_copyFrom_100 fl_X5_37 (by decide) (by decide) rfl (pl_o hp) (pl_r8 hp) ?_
  refine mw_cSNv (rest := []) [.ref (q + 9), .ref (p + 9)] (c_X11_copyRow d (m_bk h p 21 W7 (u1l N 2 (cpyl 96 (M 2) (N 2)))) (q + 9) (p + 9) 8 (pl_a8 hq) (pl_a8 hp) (by decide)) mY_X11_copyRow dX5_copyFrom_103 nl_X5_79 rfl rfl (Nat.le_of_ble_eq_true rfl) ⟨Nat.le_refl _, Nat.le_refl _⟩ rfl ?_
  refine mw_hp (bk_copy (i := 9) (j := 9) hO hd (by decide) (by decide)) ?_
  generalize hv8 : u1 W7 9 (cpy 8 (O 9) (W7 9)) = W8
  refine mw_aload_n 1 dX5_copyFrom_106 rfl ?_
  refine mw_getr 5 9 dX5_copyFrom_107 fl_X5_40 (by decide) (by decide) rfl (pl_o hq) (pl_r9 hq) ?_
  refine mw_aload_n 0 dX5_copyFrom_110 rfl ?_
  refine mw_getr 5 9 dX5_copyFrom_111 fl_X5_40 (by decide) (by decide) rfl (pl_o hp) (pl_r9 hp) ?_
  refine mw_cSNv (rest := []) [.ref (q + 10), .ref (p + 10)] (c_X11_copyRow d (m_bk h p 21 W8 (u1l N 2 (cpyl 96 (M 2) (N 2)))) (q + 10) (p + 10) 8 (pl_a9 hq) (pl_a9 hp) (by decide)) mY_X11_copyRow dX5_copyFrom_114 nl_X5_79 rfl rfl (Nat.le_of_ble_eq_true rfl) ⟨Nat.le_refl _, Nat.le_refl _⟩ rfl ?_
  refine mw_hp (bk_copy (i := 10) (j := 10) hO hd (by decide) (by decide)) ?_
  generalize hv9 : u1 W8 10 (cpy 8 (O 10) (W8 10)) = W9
  refine mw_aload_n 1 dX5_copyFrom_117 rfl ?_
  refine mw_getr 5 10 dX5_copyFrom_118 fl_X5_43 (by decide) (by decide) rfl (pl_o hq) (pl_r10 hq) ?_
  refine mw_aload_n 0 dX5_copyFrom_121 rfl ?_
  refine mw_getr 5 10 dX5_copyFrom_122 fl_X5_43 (by decide) (by decide) rfl (pl_o hp) (pl_r10 hp) ?_
  refine mw_cSNv (rest := []) [.ref (q + 11), .ref (p + 11)] (c_X11_copyRow d (m_bk h p 21 W9 (u1l N 2 (cpyl 96 (M 2) (N 2)))) (q + 11) (p + 11) 10 (pl_a10 hq) (pl_a10 hp) (by decide)) mY_X11_copyRow dX5_copyFrom_125 nl_X5_79 rfl rfl (Nat.le_of_ble_eq_true rfl) ⟨Nat.le_refl _, Nat.le_refl _⟩ rfl ?_
  refine mw_hp (bk_copy (i := 11) (j := 11) hO hd (by decide) (by decide)) ?_
  generalize hv10 : u1 W9 11 (cpy 10 (O 11) (W9 11)) = W10
  refine mw_aload_n 1 dX5_copyFrom_128 rfl ?_
  refine mw_getr 5 11 dX5_copyFrom_129 fl_X5_46 (by decide) (by decide) rfl (pl_o hq) (pl_r11 hq) ?_
  refine mw_aload_n 0 dX5_copyFrom_132 rfl ?_
  refine mw_getr 5 11 dX5_copyFrom_133 fl_X5_46 (by decide) (by decide) rfl (pl_o hp) (pl_r11 hp) ?_
  refine mw_cSNv (rest := []) [.ref (q + 12), .ref (p + 12)] (c_X11_copyRow d (m_bk h p 21 W10 (u1l N 2 (cpyl 96 (M 2) (N 2)))) (q + 12) (p + 12) 10 (pl_a11 hq) (pl_a11 hp) (by decide)) mY_X11_copyRow dX5_copyFrom_136 nl_X5_79 rfl rfl (Nat.le_of_ble_eq_true rfl) ⟨Nat.le_refl _, Nat.le_refl _⟩ rfl ?_
  refine mw_hp (bk_copy (i := 12) (j := 12) hO hd (by decide) (by decide)) ?_
  generalize hv11 : u1 W10 12 (cpy 10 (O 12) (W10 12)) = W11
  refine mw_aload_n 1 dX5_copyFrom_139 rfl ?_
  refine mw_getr 5 12 dX5_copyFrom_140 fl_X5_49 (by decide) (by decide) rfl (pl_o hq) (pl_r12 hq) ?_
  refine mw_aload_n 0 dX5_copyFrom_143 rfl ?_
  refine mw_getr 5 12 dX5_copyFrom_144 fl_X5_49 (by decide) (by decide) rfl (pl_o hp) (pl_r12 hp) ?_
  refine mw_cSNv (rest := []) [.ref (q + 13), .ref (p + 13)] (c_X11_copyRow d (m_bk h p 21 W11 (u1l N 2 (cpyl 96 (M 2) (N 2)))) (q + 13) (p + 13) 60 (pl_a12 hq) (pl_a12 hp) (by decide)) mY_X11_copyRow dX5_copyFrom_147 nl_X5_79 rfl rfl (Nat.le_of_ble_eq_true rfl) ⟨Nat.le_refl _, Nat.le_refl _⟩ rfl ?_
  refine mw_hp (bk_copy (i := 13) (j := 13) hO hd (by decide) (by decide)) ?_
  generalize hv12 : u1 W11 13 (cpy 60 (O 13) (W11 13)) = W12
  refine mw_aload_n 1 dX5_copyFrom_150 rfl ?_
  refine mw_getr 5 13 dX5_copyFrom_151 fl_X5_52 (by decide) (by decide) rfl (pl_o hq) (pl_r13 hq) ?_
  refine mw_aload_n 0 dX5_copyFrom_154 rfl ?_
  refine mw_getr 5 13 dX5_copyFrom_155 fl_X5_52 (by decide) (by decide) rfl (pl_o hp) (pl_r13 hp) ?_
  refine mw_cSNv (rest := []) [.ref (q + 14), .ref (p + 14)] (c_X11_copyRow d (m_bk h p 21 W12 (u1l N 2 (cpyl 96 (M 2) (N 2)))) (q + 14) (p + 14) 10 (pl_a13 hq) (pl_a13 hp) (by decide)) mY_X11_copyRow dX5_copyFrom_158 nl_X5_79 rfl rfl (Nat.le_of_ble_eq_true rfl) ⟨Nat.le_refl _, Nat.le_refl _⟩ rfl ?_
  refine mw_hp (bk_copy (i := 14) (j := 14) hO hd (by decide) (by decide)) ?_
  generalize hv13 : u1 W12 14 (cpy 10 (O 14) (W12 14)) = W13
  refine mw_aload_n 1 dX5_copyFrom_161 rfl ?_
  refine mw_getr 5 14 dX5_copyFrom_162 fl_X5_55 (by decide) (by decide) rfl (pl_o hq) (pl_r14 hq) ?_
  refine mw_aload_n 0 dX5_copyFrom_165 rfl ?_
  refine mw_getr 5 14 dX5_copyFrom_166 fl_X5_55 (by decide) (by decide) rfl (pl_o hp) (pl_r14 hp) ?_
  refine mw_cSNv (rest := []) [.ref (q + 15), .ref (p + 15)] (c_X11_copyRow d (m_bk h p 21 W13 (u1l N 2 (cpyl 96 (M 2) (N 2)))) (q + 15) (p + 15) 10 (pl_a14 hq) (pl_a14 hp) (by decide)) mY_X11_copyRow dX5_copyFrom_169 nl_X5_79 rfl rfl (Nat.le_of_ble_eq_true rfl) ⟨Nat.le_refl _, Nat.le_refl _⟩ rfl ?_
  refine mw_hp (bk_copy (i := 15) (j := 15) hO hd (by decide) (by decide)) ?_
  generalize hv14 : u1 W13 15 (cpy 10 (O 15) (W13 15)) = W14
  refine mw_aload_n 1 dX5_copyFrom_172 rfl ?_
  refine mw_getr 5 15 dX5_copyFrom_173 fl_X5_58 (by decide) (by decide) rfl (pl_o hq) (pl_r15 hq) ?_
  refine mw_aload_n 0 dX5_copyFrom_176 rfl ?_
  refine mw_getr 5 15 dX5_copyFrom_177 fl_X5_58 (by decide) (by decide) rfl (pl_o hp) (pl_r15 hp) ?_
  refine mw_cSNv (rest := []) [.ref (q + 16), .ref (p + 16)] (c_X11_copyRow d (m_bk h p 21 W14 (u1l N 2 (cpyl 96 (M 2) (N 2)))) (q + 16) (p + 16) 10 (pl_a15 hq) (pl_a15 hp) (by decide)) mY_X11_copyRow dX5_copyFrom_180 nl_X5_79 rfl rfl (Nat.le_of_ble_eq_true rfl) ⟨Nat.le_refl _, Nat.le_refl _⟩ rfl ?_
  refine mw_hp (bk_copy (i := 16) (j := 16) hO hd (by decide) (by decide)) ?_
  generalize hv15 : u1 W14 16 (cpy 10 (O 16) (W14 16)) = W15
  refine mw_aload_n 1 dX5_copyFrom_183 rfl ?_
  refine mw_getr 5 16 dX5_copyFrom_184 fl_X5_61 (by decide) (by decide) rfl (pl_o hq) (pl_r16 hq) ?_
  refine mw_aload_n 0 dX5_copyFrom_187 rfl ?_
  refine mw_getr 5 16 dX5_copyFrom_188 fl_X5_61 (by decide) (by decide) rfl (pl_o hp) (pl_r16 hp) ?_
  refine mw_cSNv (rest := []) [.ref (q + 17), .ref (p + 17)] (c_X11_copyRow d (m_bk h p 21 W15 (u1l N 2 (cpyl 96 (M 2) (N 2)))) (q + 17) (p + 17) 10 (pl_a16 hq) (pl_a16 hp) (by decide)) mY_X11_copyRow dX5_copyFrom_191 nl_X5_79 rfl rfl (Nat.le_of_ble_eq_true rfl) ⟨Nat.le_refl _, Nat.le_refl _⟩ rfl ?_
  refine mw_hp (bk_copy (i := 17) (j := 17) hO hd (by decide) (by decide)) ?_
  generalize hv16 : u1 W15 17 (cpy 10 (O 17) (W15 17)) = W16
  refine mw_aload_n 1 dX5_copyFrom_194 rfl ?_
  refine mw_getr 5 17 dX5_copyFrom_195 fl_X5_64 (by decide) (by decide) rfl (pl_o hq) (pl_r17 hq) ?_
  refine mw_aload_n 0 dX5_copyFrom_198 rfl ?_
  refine mw_getr 5 17 dX5_copyFrom_199 fl_X5_64 (by decide) (by decide) rfl (pl_o hp) (pl_r17 hp) ?_
  refine mw_cSNv (rest := []) [.ref (q + 18), .ref (p + 18)] (c_X11_copyRow d (m_bk h p 21 W16 (u1l N 2 (cpyl 96 (M 2) (N 2)))) (q + 18) (p + 18) 10 (pl_a17 hq) (pl_a17 hp) (by decide)) mY_X11_copyRow dX5_copyFrom_202 nl_X5_79 rfl rfl (Nat.le_of_ble_eq_true rfl) ⟨Nat.le_refl _, Nat.le_refl _⟩ rfl ?_
  refine mw_hp (bk_copy (i := 18) (j := 18) hO hd (by decide) (by decide)) ?_
  generalize hv17 : u1 W16 18 (cpy 10 (O 18) (W16 18)) = W17
  refine mw_aload_n 1 dX5_copyFrom_205 rfl ?_
  refine mw_getr 5 18 dX5_copyFrom_206 fl_X5_67 (by decide) (by decide) rfl (pl_o hq) (pl_r18 hq) ?_
  refine mw_aload_n 0 dX5_copyFrom_209 rfl ?_
  refine mw_getr 5 18 dX5_copyFrom_210 fl_X5_67 (by decide) (by decide) rfl (pl_o hp) (pl_r18 hp) ?_
  refine mw_cSNv (rest := []) [.ref (q + 19), .ref (p + 19)] (c_X11_copyRow d (m_bk h p 21 W17 (u1l N 2 (cpyl 96 (M 2) (N 2)))) (q + 19) (p + 19) 5 (pl_a18 hq) (pl_a18 hp) (by decide)) mY_X11_copyRow dX5_copyFrom_213 nl_X5_79 rfl rfl (Nat.le_of_ble_eq_true rfl) ⟨Nat.le_refl _, Nat.le_refl _⟩ rfl ?_
  refine mw_hp (bk_copy (i := 19) (j := 19) hO hd (by decide) (by decide)) ?_
  generalize hv18 : u1 W17 19 (cpy 5 (O 19) (W17 19)) = W18
  refine mw_aload_n 1 dX5_copyFrom_216 rfl ?_
  refine mw_getr 5 19 dX5_copyFrom_217 fl_X5_70 (by decide) (by decide) rfl (pl_o hq) (pl_r19 hq) ?_
  refine mw_aload_n 0 dX5_copyFrom_220 rfl ?_
  refine mw_getr 5 19 dX5_copyFrom_221 fl_X5_70 (by decide) (by decide) rfl (pl_o hp) (pl_r19 hp) ?_
  refine mw_cSNv (rest := []) [.ref (q + 20), .ref (p + 20)] (c_X11_copyRow d (m_bk h p 21 W18 (u1l N 2 (cpyl 96 (M 2) (N 2)))) (q + 20) (p + 20) 5 (pl_a19 hq) (pl_a19 hp) (by decide)) mY_X11_copyRow dX5_copyFrom_224 nl_X5_79 rfl rfl (Nat.le_of_ble_eq_true rfl) ⟨Nat.le_refl _, Nat.le_refl _⟩ rfl ?_
  refine mw_hp (bk_copy (i := 20) (j := 20) hO hd (by decide) (by decide)) ?_
  generalize hv19 : u1 W18 20 (cpy 5 (O 20) (W18 20)) = W19
  refine mw_return dX5_copyFrom_227 rfl ⟨rfl, rfl⟩ ?_
  subst_vars; exact ⟨rfl, rfl⟩
def s_copy (U V : m_V) : m_V := (u1 (u1 (u1 (u1 (u1 (u1 (u2 (u2 (u2 (u2 (u2 (u2 (u2 V 0 1 (U 0 1)) 0 2 (U 0 2)) 0 3 (U 0 3)) 0 4 (U 0 4)) 0 5 (U 0 5)) 0 6 (U 0 6)) 0 7 (U 0 7)) 1 (cpy 10 (U 1) (V 1))) 2 (cpy 10 (U 2) (V 2))) 3 (cpy 10 (U 3) (V 3))) 4 (cpy 5 (U 4) (V 4))) 5 (cpy 5 (U 5) (V 5))) 6 (cpy 5 (U 6) (V 6)))
set_option maxRecDepth 100000 in
set_option maxHeartbeats 4000000 in
theorem c_X8_copyFrom (d : Nat) (h : m_H) (s o : Nat) (V U : m_V) (SL : m_L) (hs : isState h.2.2 s) (ho : isState h.2.2 o) (hV : blI h s 7 V) (hSL : blJ h s 7 SL) (hU : blI h o 7 U) (hd : o + 7 ≤ s ∨ s + 7 ≤ o) : MC yX8_copyFrom cX8_copyFrom 2 none (d + 2) 0 0 [.ref s, .ref o] h (m_rn (m_bk h s 7 (s_copy U V) SL)) := by
  refine mc_of (by decide +kernel) (Nat.le_of_ble_eq_true rfl) ?_
  show MW (yX8_copyFrom.cls, cX8_copyFrom, 2, none, yX8_copyFrom.name, d + 2, 0, 0) 0 (0, 0) [(0, .ref s), (1, .ref o)] [] h _
  refine mw_hp (bk_self (n := 7) hV hSL) ?_
  refine mw_aload_n 0 dX8_copyFrom_0 rfl ?_
  refine mw_aload_n 1 dX8_copyFrom_1 rfl ?_
  refine mw_geti 8 1 dX8_copyFrom_2 fl_X8_9 (by decide) (by decide) rfl (sa_o ho) ?_
  refine mw_top (x' := (U 0 1)) (bk_o (j := 0) hU hd (by decide)) ?_
  refine mw_puti 8 1 dX8_copyFrom_5 fl_X8_9 (by decide) (by decide) rfl rfl (sa_o hs) ⟨rfl, rfl⟩ ?_
  refine mw_hp (bk_si (j := 0) (by decide)) ?_
  refine mw_aload_n 0 dX8_copyFrom_8 rfl ?_
  refine mw_aload_n 1 dX8_copyFrom_9 rfl ?_
  refine mw_geti 8 2 dX8_copyFrom_10 fl_X8_15 (by decide) (by decide) rfl (sa_o ho) ?_
  refine mw_top (x' := (U 0 2)) (bk_o (j := 0) hU hd (by decide)) ?_
  refine mw_puti 8 2 dX8_copyFrom_13 fl_X8_15 (by decide) (by decide) rfl rfl (sa_o hs) ⟨rfl, rfl⟩ ?_
  refine mw_hp (bk_si (j := 0) (by decide)) ?_
  refine mw_aload_n 0 dX8_copyFrom_16 rfl ?_
  refine mw_aload_n 1 dX8_copyFrom_17 rfl ?_
  refine mw_geti 8 3 dX8_copyFrom_18 fl_X8_18 (by decide) (by decide) rfl (sa_o ho) ?_
  refine mw_top (x' := (U 0 3)) (bk_o (j := 0) hU hd (by decide)) ?_
  refine mw_puti 8 3 dX8_copyFrom_21 fl_X8_18 (by decide) (by decide) rfl rfl (sa_o hs) ⟨rfl, rfl⟩ ?_
  refine mw_hp (bk_si (j := 0) (by decide)) ?_
  refine mw_aload_n 0 dX8_copyFrom_24 rfl ?_
  refine mw_aload_n 1 dX8_copyFrom_25 rfl ?_
  refine mw_geti 8 4 dX8_copyFrom_26 fl_X8_21 (by decide) (by decide) rfl (sa_o ho) ?_
  refine mw_top (x' := (U 0 4)) (bk_o (j := 0) hU hd (by decide)) ?_
  refine mw_puti 8 4 dX8_copyFrom_29 fl_X8_21 (by decide) (by decide) rfl rfl (sa_o hs) ⟨rfl, rfl⟩ ?_
  refine mw_hp (bk_si (j := 0) (by decide)) ?_
  refine mw_aload_n 0 dX8_copyFrom_32 rfl ?_
  refine mw_aload_n 1 dX8_copyFrom_33 rfl ?_
  refine mw_geti 8 5 dX8_copyFrom_34 fl_X8_24 (by decide) (by decide) rfl (sa_o ho) ?_
  refine mw_top (x' := (U 0 5)) (bk_o (j := 0) hU hd (by decide)) ?_
  refine mw_puti 8 5 dX8_copyFrom_37 fl_X8_24 (by decide) (by decide) rfl rfl (sa_o hs) ⟨rfl, rfl⟩ ?_
  refine mw_hp (bk_si (j := 0) (by decide)) ?_
  refine mw_aload_n 0 dX8_copyFrom_40 rfl ?_
  refine mw_aload_n 1 dX8_copyFrom_41 rfl ?_
  refine mw_geti 8 6 dX8_copyFrom_42 fl_X8_27 (by decide) (by decide) rfl (sa_o ho) ?_
  refine mw_top (x' := (U 0 6)) (bk_o (j := 0) hU hd (by decide)) ?_
  refine mw_puti 8 6 dX8_copyFrom_45 fl_X8_27 (by decide) (by decide) rfl rfl (sa_o hs) ⟨rfl, rfl⟩ ?_
  refine mw_hp (bk_si (j := 0) (by decide)) ?_
  refine mw_aload_n 0 dX8_copyFrom_48 rfl ?_
  refine mw_aload_n 1 dX8_copyFrom_49 rfl ?_
  refine mw_geti 8 7 dX8_copyFrom_50 fl_X8_30 (by decide) (by decide) rfl (sa_o ho) ?_
  refine mw_top (x' := (U 0 7)) (bk_o (j := 0) hU hd (by decide)) ?_
  refine mw_puti 8 7 dX8_copyFrom_53 fl_X8_30 (by decide) (by decide) rfl rfl (sa_o hs) ⟨rfl, rfl⟩ ?_
  refine mw_hp (bk_si (j := 0) (by decide)) ?_
  refine mw_aload_n 1 dX8_copyFrom_56 rfl ?_
  refine mw_getr 8 8 dX8_copyFrom_57 fl_X8_33 (by decide) (by decide) rfl (sa_o ho) (sa_r8 ho) ?_
  refine mw_aload_n 0 dX8_copyFrom_60 rfl ?_
  refine mw_getr 8 8 dX8_copyFrom_61 fl_X8_33 (by decide) (by decide) rfl (sa_o hs) (sa_r8 hs) ?_
  refine mw_cSNv (rest := []) [.ref (o + 1), .ref (s + 1)] (c_X11_copyRow d (m_bk h s 7 (u2 (u2 (u2 (u2 (u2 (u2 (u2 V 0 1 (U 0 1)) 0 2 (U 0 2)) 0 3 (U 0 3)) 0 4 (U 0 4)) 0 5 (U 0 5)) 0 6 (U 0 6)) 0 7 (U 0 7)) SL) (o + 1) (s + 1) 10 (sa_a8 ho) (sa_a8 hs) (by decide)) mY_X11_copyRow dX8_copyFrom_64 nl_X8_67 rfl rfl (Nat.le_of_ble_eq_true rfl) ⟨Nat.le_refl _, Nat.le_refl _⟩ rfl ?_
  refine mw_hp (bk_copy (i := 1) (j := 1) hU hd (by decide) (by decide)) ?_
  generalize hv1 : u1 (u2 (u2 (u2 (u2 (u2 (u2 (u2 V 0 1 (U 0 1)) 0 2 (U 0 2)) 0 3 (U 0 3)) 0 4 (U 0 4)) 0 5 (U 0 5)) 0 6 (U 0 6)) 0 7 (U 0 7)) 1 (cpy 10 (U 1) ((u2 (u2 (u2 (u2 (u2 (u2 (u2 V 0 1 (U 0 1)) 0 2 (U 0 2)) 0 3 (U 0 3)) 0 4 (U 0 4)) 0 5 (U 0 5)) 0 6 (U 0 6)) 0 7 (U 0 7)) 1)) = W1
  refine mw_aload_n 1 dX8_copyFrom_67 rfl ?_
  refine mw_getr 8 9 dX8_copyFrom_68 fl_X8_37 (by decide) (by decide) rfl (sa_o ho) (sa_r9 ho) ?_
  refine mw_aload_n 0 dX8_copyFrom_71 rfl ?_
  refine mw_getr 8 9 dX8_copyFrom_72 fl_X8_37 (by decide) (by decide) rfl (sa_o hs) (sa_r9 hs) ?_
  refine mw_cSNv (rest := []) [.ref (o + 2), .ref (s + 2)] (c_X11_copyRow d (m_bk h s 7 W1 SL) (o + 2) (s + 2) 10 (sa_a9 ho) (sa_a9 hs) (by decide)) mY_X11_copyRow dX8_copyFrom_75 nl_X8_67 rfl rfl (Nat.le_of_ble_eq_true rfl) ⟨Nat.le_refl _, Nat.le_refl _⟩ rfl ?_
  refine mw_hp (bk_copy (i := 2) (j := 2) hU hd (by decide) (by decide)) ?_
  generalize hv2 : u1 W1 2 (cpy 10 (U 2) (W1 2)) = W2
  refine mw_aload_n 1 dX8_copyFrom_78 rfl ?_
  refine mw_getr 8 10 dX8_copyFrom_79 fl_X8_40 (by decide) (by decide) rfl (sa_o ho) (sa_r10 ho) ?_
  refine mw_aload_n 0 dX8_copyFrom_82 rfl ?_
  refine mw_getr 8 10 dX8_copyFrom_83 fl_X8_40 (by decide) (by decide) rfl (sa_o hs) (sa_r10 hs) ?_
  refine mw_cSNv (rest := []) [.ref (o + 3), .ref (s + 3)] (c_X11_copyRow d (m_bk h s 7 W2 SL) (o + 3) (s + 3) 10 (sa_a10 ho) (sa_a10 hs) (by decide)) mY_X11_copyRow dX8_copyFrom_86 nl_X8_67 rfl rfl (Nat.le_of_ble_eq_true rfl) ⟨Nat.le_refl _, Nat.le_refl _⟩ rfl ?_
  refine mw_hp (bk_copy (i := 3) (j := 3) hU hd (by decide) (by decide)) ?_
  generalize hv3 : u1 W2 3 (cpy 10 (U 3) (W2 3)) = W3
  refine mw_aload_n 1 dX8_copyFrom_89 rfl ?_
  refine mw_getr 8 11 dX8_copyFrom_90 fl_X8_43 (by decide) (by decide) rfl (sa_o ho) (sa_r11 ho) ?_
  refine mw_aload_n 0 dX8_copyFrom_93 rfl ?_
  refine mw_getr 8 11 dX8_copyFrom_94 fl_X8_43 (by decide) (by decide) rfl (sa_o hs) (sa_r11 hs) ?_
  refine mw_cSNv (rest := []) [.ref (o + 4), .ref (s + 4)] (c_X11_copyRow d (m_bk h s 7 W3 SL) (o + 4) (s + 4) 5 (sa_a11 ho) (sa_a11 hs) (by decide)) mY_X11_copyRow dX8_copyFrom_97 nl_X8_67 rfl rfl (Nat.le_of_ble_eq_true rfl) ⟨Nat.le_refl _, Nat.le_refl _⟩ rfl ?_
  refine mw_hp (bk_copy (i := 4) (j := 4) hU hd (by decide) (by decide)) ?_
  generalize hv4 : u1 W3 4 (cpy 5 (U 4) (W3 4)) = W4
  refine mw_aload_n 1 dX8_copyFrom_100 rfl ?_
  refine mw_getr 8 12 dX8_copyFrom_101 fl_X8_46 (by decide) (by decide) rfl (sa_o ho) (sa_r12 ho) ?_
  refine mw_aload_n 0 dX8_copyFrom_104 rfl ?_
  refine mw_getr 8 12 dX8_copyFrom_105 fl_X8_46 (by decide) (by decide) rfl (sa_o hs) (sa_r12 hs) ?_
  refine mw_cSNv (rest := []) [.ref (o + 5), .ref (s + 5)] (c_X11_copyRow d (m_bk h s 7 W4 SL) (o + 5) (s + 5) 5 (sa_a12 ho) (sa_a12 hs) (by decide)) mY_X11_copyRow dX8_copyFrom_108 nl_X8_67 rfl rfl (Nat.le_of_ble_eq_true rfl) ⟨Nat.le_refl _, Nat.le_refl _⟩ rfl ?_
  refine mw_hp (bk_copy (i := 5) (j := 5) hU hd (by decide) (by decide)) ?_
  generalize hv5 : u1 W4 5 (cpy 5 (U 5) (W4 5)) = W5
  refine mw_aload_n 1 dX8_copyFrom_111 rfl ?_
  refine mw_getr 8 13 dX8_copyFrom_112 fl_X8_49 (by decide) (by decide) rfl (sa_o ho) (sa_r13 ho) ?_
  refine mw_aload_n 0 dX8_copyFrom_115 rfl ?_
  refine mw_getr 8 13 dX8_copyFrom_116 fl_X8_49 (by decide) (by decide) rfl (sa_o hs) (sa_r13 hs) ?_
  refine mw_cSNv (rest := []) [.ref (o + 6), .ref (s + 6)] (c_X11_copyRow d (m_bk h s 7 W5 SL) (o + 6) (s + 6) 5 (sa_a13 ho) (sa_a13 hs) (by decide)) mY_X11_copyRow dX8_copyFrom_119 nl_X8_67 rfl rfl (Nat.le_of_ble_eq_true rfl) ⟨Nat.le_refl _, Nat.le_refl _⟩ rfl ?_
  refine mw_hp (bk_copy (i := 6) (j := 6) hU hd (by decide) (by decide)) ?_
  generalize hv6 : u1 W5 6 (cpy 5 (U 6) (W5 6)) = W6
  refine mw_return dX8_copyFrom_122 rfl ⟨rfl, rfl⟩ ?_
  subst_vars; exact ⟨rfl, rfl⟩
def s_start (P V : m_V) : m_V := (u1 (u1 (u1 (u1 (u1 (u1 (u2 (u2 (u2 (u2 (u2 (u2 (u2 V 0 1 0) 0 2 0) 0 3 0) 0 4 0) 0 5 0) 0 6 0) 0 7 0) 1 (fun k => if k < 10 then 0 else V 1 k)) 2 (fun k => if k < 10 then 0 else V 2 k)) 3 (fun k => if k < 10 then (-1) else V 3 k)) 4 (cpy 5 (P 19) (V 4))) 5 (fun k => if k < 5 then 0 else V 5 k)) 6 (fun k => if k < 5 then 0 else V 6 k))
set_option maxRecDepth 100000 in
set_option maxHeartbeats 4000000 in
theorem c_X8_start (d : Nat) (h : m_H) (s : Nat) (V P : m_V) (SL : m_L) (hs : isState h.2.2 s) (hp : isPlan h.2.2 4) (hV : blI h s 7 V) (hSL : blJ h s 7 SL) (hP : blI h 4 21 P) (hd : 4 + 21 ≤ s ∨ s + 7 ≤ 4) : MC yX8_start cX8_start 1 none (d + 3) 0 0 [.ref s] h (m_rn (m_bk h s 7 (s_start P V) SL)) := by
  refine mc_of (by decide +kernel) (Nat.le_of_ble_eq_true rfl) ?_
  show MW (yX8_start.cls, cX8_start, 1, none, yX8_start.name, d + 3, 0, 0) 0 (0, 0) [(0, .ref s)] [] h _
  refine mw_hp (bk_self (n := 7) hV hSL) ?_
  refine mw_aload_n 0 dX8_start_0 rfl ?_
  refine mw_iconst (v := 0) dX8_start_1 rfl ?_
  refine mw_puti 8 1 dX8_start_2 fl_X8_9 (by decide) (by decide) rfl rfl (sa_o hs) ⟨rfl, rfl⟩ ?_
  refine mw_hp (bk_si (j := 0) (by decide)) ?_
  refine mw_aload_n 0 dX8_start_5 rfl ?_
  refine mw_iconst (v := 0) dX8_start_6 rfl ?_
  refine mw_puti 8 2 dX8_start_7 fl_X8_15 (by decide) (by decide) rfl rfl (sa_o hs) ⟨rfl, rfl⟩ ?_
  refine mw_hp (bk_si (j := 0) (by decide)) ?_
  refine mw_aload_n 0 dX8_start_10 rfl ?_
  refine mw_iconst (v := 0) dX8_start_11 rfl ?_
  refine mw_puti 8 3 dX8_start_12 fl_X8_18 (by decide) (by decide) rfl rfl (sa_o hs) ⟨rfl, rfl⟩ ?_
  refine mw_hp (bk_si (j := 0) (by decide)) ?_
  refine mw_aload_n 0 dX8_start_15 rfl ?_
  refine mw_iconst (v := 0) dX8_start_16 rfl ?_
  refine mw_puti 8 4 dX8_start_17 fl_X8_21 (by decide) (by decide) rfl rfl (sa_o hs) ⟨rfl, rfl⟩ ?_
  refine mw_hp (bk_si (j := 0) (by decide)) ?_
  refine mw_aload_n 0 dX8_start_20 rfl ?_
  refine mw_iconst (v := 0) dX8_start_21 rfl ?_
  refine mw_puti 8 5 dX8_start_22 fl_X8_24 (by decide) (by decide) rfl rfl (sa_o hs) ⟨rfl, rfl⟩ ?_
  refine mw_hp (bk_si (j := 0) (by decide)) ?_
  refine mw_aload_n 0 dX8_start_25 rfl ?_
  refine mw_iconst (v := 0) dX8_start_26 rfl ?_
  refine mw_puti 8 6 dX8_start_27 fl_X8_27 (by decide) (by decide) rfl rfl (sa_o hs) ⟨rfl, rfl⟩ ?_
  refine mw_hp (bk_si (j := 0) (by decide)) ?_
  refine mw_aload_n 0 dX8_start_30 rfl ?_
  refine mw_iconst (v := 0) dX8_start_31 rfl ?_
  refine mw_puti 8 7 dX8_start_32 fl_X8_30 (by decide) (by decide) rfl rfl (sa_o hs) ⟨rfl, rfl⟩ ?_
  refine mw_hp (bk_si (j := 0) (by decide)) ?_
  refine mw_aload_n 0 dX8_start_35 rfl ?_
  refine mw_getr 8 8 dX8_start_36 fl_X8_33 (by decide) (by decide) rfl (sa_o hs) (sa_r8 hs) ?_
  refine mw_iconst (v := 0) dX8_start_39 rfl ?_
  refine mw_cSv (rest := []) [.ref (s + 1), .int 0] (c_J7_fill_53178 (d + 1) (m_bk h s 7 (u2 (u2 (u2 (u2 (u2 (u2 (u2 V 0 1 0) 0 2 0) 0 3 0) 0 4 0) 0 5 0) 0 6 0) 0 7 0) SL) (s + 1) 10 0 (sa_a8 hs) (by decide)) mY_J7_fill_53178 dX8_start_40 ml_X8_56 rfl rfl (Nat.le_of_ble_eq_true rfl) ⟨Nat.le_refl _, Nat.le_refl _⟩ rfl ?_
  refine mw_hp (bk_fill (j := 1) (by decide)) ?_
  generalize hv1 : u1 (u2 (u2 (u2 (u2 (u2 (u2 (u2 V 0 1 0) 0 2 0) 0 3 0) 0 4 0) 0 5 0) 0 6 0) 0 7 0) 1 (fun k => if k < 10 then 0 else (u2 (u2 (u2 (u2 (u2 (u2 (u2 V 0 1 0) 0 2 0) 0 3 0) 0 4 0) 0 5 0) 0 6 0) 0 7 0) 1 k) = W1
  refine mw_aload_n 0 dX8_start_43 rfl ?_
  refine mw_getr 8 9 dX8_start_44 fl_X8_37 (by decide) (by decide) rfl (sa_o hs) (sa_r9 hs) ?_
  refine mw_iconst (v := 0) dX8_start_47 rfl ?_
  refine mw_cSv (rest := []) [.ref (s + 2), .int 0] (c_J7_fill_53178 (d + 1) (m_bk h s 7 W1 SL) (s + 2) 10 0 (sa_a9 hs) (by decide)) mY_J7_fill_53178 dX8_start_48 ml_X8_56 rfl rfl (Nat.le_of_ble_eq_true rfl) ⟨Nat.le_refl _, Nat.le_refl _⟩ rfl ?_
  refine mw_hp (bk_fill (j := 2) (by decide)) ?_
  generalize hv2 : u1 W1 2 (fun k => if k < 10 then 0 else W1 2 k) = W2
  refine mw_aload_n 0 dX8_start_51 rfl ?_
  refine mw_getr 8 10 dX8_start_52 fl_X8_40 (by decide) (by decide) rfl (sa_o hs) (sa_r10 hs) ?_
  refine mw_iconst (v := -1) dX8_start_55 rfl ?_
  refine mw_cSv (rest := []) [.ref (s + 3), .int (-1)] (c_J7_fill_53178 (d + 1) (m_bk h s 7 W2 SL) (s + 3) 10 (-1) (sa_a10 hs) (by decide)) mY_J7_fill_53178 dX8_start_56 ml_X8_56 rfl rfl (Nat.le_of_ble_eq_true rfl) ⟨Nat.le_refl _, Nat.le_refl _⟩ rfl ?_
  refine mw_hp (bk_fill (j := 3) (by decide)) ?_
  generalize hv3 : u1 W2 3 (fun k => if k < 10 then (-1) else W2 3 k) = W3
  refine mw_aload_n 0 dX8_start_59 rfl ?_
  refine mw_getr 8 0 dX8_start_60 fl_X8_52 (by decide) (by decide) rfl (sa_o hs) (sa_r0 hs) ?_
  refine mw_getr 5 18 dX8_start_63 fl_X8_62 (by decide) (by decide) rfl (pl_o hp) (pl_r18 hp) ?_
  refine mw_aload_n 0 dX8_start_66 rfl ?_
  refine mw_getr 8 11 dX8_start_67 fl_X8_43 (by decide) (by decide) rfl (sa_o hs) (sa_r11 hs) ?_
  refine mw_cSNv (rest := []) [.ref (4 + 19), .ref (s + 4)] (c_X11_copyRow (d + 1) (m_bk h s 7 W3 SL) (4 + 19) (s + 4) 5 (pl_a18 hp) (sa_a11 hs) (by decide)) mY_X11_copyRow dX8_start_70 nl_X8_67 rfl rfl (Nat.le_of_ble_eq_true rfl) ⟨Nat.le_refl _, Nat.le_refl _⟩ rfl ?_
  refine mw_hp (bk_copy (i := 19) (j := 4) hP hd (by decide) (by decide)) ?_
  generalize hv4 : u1 W3 4 (cpy 5 (P 19) (W3 4)) = W4
  refine mw_aload_n 0 dX8_start_73 rfl ?_
  refine mw_getr 8 12 dX8_start_74 fl_X8_46 (by decide) (by decide) rfl (sa_o hs) (sa_r12 hs) ?_
  refine mw_iconst (v := 0) dX8_start_77 rfl ?_
  refine mw_cSv (rest := []) [.ref (s + 5), .int 0] (c_J7_fill_53178 (d + 1) (m_bk h s 7 W4 SL) (s + 5) 5 0 (sa_a12 hs) (by decide)) mY_J7_fill_53178 dX8_start_78 ml_X8_56 rfl rfl (Nat.le_of_ble_eq_true rfl) ⟨Nat.le_refl _, Nat.le_refl _⟩ rfl ?_
  refine mw_hp (bk_fill (j := 5) (by decide)) ?_
  generalize hv5 : u1 W4 5 (fun k => if k < 5 then 0 else W4 5 k) = W5
  refine mw_aload_n 0 dX8_start_81 rfl ?_
  refine mw_getr 8 13 dX8_start_82 fl_X8_49 (by decide) (by decide) rfl (sa_o hs) (sa_r13 hs) ?_
  refine mw_iconst (v := 0) dX8_start_85 rfl ?_
  refine mw_cSv (rest := []) [.ref (s + 6), .int 0] (c_J7_fill_53178 (d + 1) (m_bk h s 7 W5 SL) (s + 6) 5 0 (sa_a13 hs) (by decide)) mY_J7_fill_53178 dX8_start_86 ml_X8_56 rfl rfl (Nat.le_of_ble_eq_true rfl) ⟨Nat.le_refl _, Nat.le_refl _⟩ rfl ?_
  refine mw_hp (bk_fill (j := 6) (by decide)) ?_
  generalize hv6 : u1 W5 6 (fun k => if k < 5 then 0 else W5 6 k) = W6
  refine mw_return dX8_start_89 rfl ⟨rfl, rfl⟩ ?_
  subst_vars; exact ⟨rfl, rfl⟩
