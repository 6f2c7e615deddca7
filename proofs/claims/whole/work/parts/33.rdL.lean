def r_addOver (D : m_V) (r : Nat) (c : Int32) : m_V := (if (p_trackBetween D (p_endOf D r) c) = (-1) then (u2 (u2 (u2 D 13 (r * 6 + (D 12 r).toNatClampNeg) c) 12 r ((D 12 r) + 1)) 14 r ((D 14 r) ||| (1 <<< (c &&& 31)))) else (if (D 7 (((p_trackBetween D (p_endOf D r) c)).toNatClampNeg)) = (-1) then (u2 (u2 (u2 D 13 (r * 6 + (D 12 r).toNatClampNeg) c) 12 r ((D 12 r) + 1)) 14 r ((D 14 r) ||| (1 <<< (c &&& 31)))) else (if (D 8 (((p_trackBetween D (p_endOf D r) c)).toNatClampNeg)) = 0 then (u2 (u2 (u2 (u2 D 15 r ((D 15 r) ||| (1 <<< ((D 7 (((p_trackBetween D (p_endOf D r) c)).toNatClampNeg)) &&& 31)))) 13 (r * 6 + (D 12 r).toNatClampNeg) c) 12 r ((D 12 r) + 1)) 14 r ((D 14 r) ||| (1 <<< (c &&& 31)))) else (u2 (u2 (u2 (u2 D 16 r ((D 16 r) ||| (1 <<< ((D 7 (((p_trackBetween D (p_endOf D r) c)).toNatClampNeg)) &&& 31)))) 13 (r * 6 + (D 12 r).toNatClampNeg) c) 12 r ((D 12 r) + 1)) 14 r ((D 14 r) ||| (1 <<< (c &&& 31)))))))
set_option maxRecDepth 100000 in
set_option maxHeartbeats 4000000 in
theorem c_X6_addOver (d : Nat) (h : m_H) (D : m_V) (N : m_L) (hr : isRead h.2.2) (hp : isPlan h.2.2 26) (hD : blI h 26 21 D) (hDN : blJ h 26 21 N) (hN : okP D) (r g k : Nat) (c : Int32) (hr10 : r < 10) (hg : D 11 r = nI g) (hg8 : g < 8) (hk : D 12 r = nI k) (hk6 : k ≤ 6) (hk5 : k < 6) : MC yX6_addOver cX6_addOver 5 none (d + 3) 0 0 [.ref 25, .int (nI r), .int c] h (m_rn (m_bk h 26 21 (r_addOver D r c) N)) := by
  refine mc_of (by decide +kernel) (Nat.le_of_ble_eq_true rfl) ?_
  show MW (yX6_addOver.cls, cX6_addOver, 5, none, yX6_addOver.name, d + 3, 0, 0) 0 (0, 0) [(0, .ref 25), (1, .int (nI r)), (2, .int c)] [] h _
  refine mw_hp (bk_self (n := 21) hD hDN) ?_
  refine mw_aload_n 0 dX6_addOver_0 rfl ?_
  refine mw_getr 6 0 dX6_addOver_1 fl_X6_12 (by decide) (by decide) rfl (rd_o hr) (rd_r0 hr) ?_
  refine mw_aload_n 0 dX6_addOver_4 rfl ?_
  refine mw_getr 6 0 dX6_addOver_5 fl_X6_12 (by decide) (by decide) rfl (rd_o hr) (rd_r0 hr) ?_
  refine mw_iload_n 1 dX6_addOver_8 rfl ?_
  refine mw_cV (rest := [.ref 26]) [.int (nI r)] (c_X5_endOf d (m_bk h 26 21 D N) 26 D hp bk_I hN r k g hr10 hk hk6 hg hg8) mY_X5_endOf dX6_addOver_9 ml_X6_191 (pl_o hp) rfl rfl (Nat.le_of_ble_eq_true rfl) ⟨Nat.le_refl _, Nat.le_refl _⟩ rfl ?_
  refine mw_iload_n 2 dX6_addOver_12 rfl ?_
  refine mw_cV (rest := []) [.int (p_endOf D r), .int c] (c_X5_trackBetween (d + 1) (m_bk h 26 21 D N) 26 D hp bk_I hN _ _) mY_X5_trackBetween dX6_addOver_13 ml_X6_123 (pl_o hp) rfl rfl (Nat.le_of_ble_eq_true rfl) ⟨Nat.le_refl _, Nat.le_refl _⟩ rfl ?_
  refine mw_istore_n [(3, .int (p_trackBetween D (p_endOf D r) c)), (0, .ref 25), (1, .int (nI r)), (2, .int c)] dX6_addOver_16 (Nat.le_of_ble_eq_true rfl) rfl ?_
  refine mw_iload_n 0 dX6_addOver_17 rfl ?_
  refine mw_iconst (v := -1) dX6_addOver_18 rfl ?_
  refine mw_icmp_ne (tgt := 26) dX6_addOver_19 (by decide) (fun c19 => ?_) (fun c19 => ?_)
  · obtain ⟨q, hq1, hq⟩ : ∃ q, q < 16 ∧ (p_trackBetween D (p_endOf D r) c) = nI q := by
      rcases ff_cases (fun k => decide (D 5 k = p_endOf D r ∧ D 6 k = c ∨ D 5 k = c ∧ D 6 k = p_endOf D r)) (ct D 2) 0 with e | ⟨q, -, h2, h3, -⟩
      · exact absurd e c19
      · exact ⟨q, by have := hN.2.2.1.2; omega, h3⟩
    refine mw_aload_n 1 dX6_addOver_26 rfl ?_
    refine mw_getr 6 0 dX6_addOver_27 fl_X6_12 (by decide) (by decide) rfl (rd_o hr) (rd_r0 hr) ?_
    refine mw_getr 5 6 dX6_addOver_30 fl_X6_150 (by decide) (by decide) rfl (pl_o hp) (pl_r6 hp) ?_
    refine mw_iload_n 0 dX6_addOver_33 rfl ?_
    refine mw_iaN (((p_trackBetween D (p_endOf D r) c)).toNatClampNeg) dX6_addOver_34 (pl_a6 hp) (by rw [hq, nI_clamp (by omega)]; omega) (by decide) (by rw [hq, nI_clamp (by omega)]) ?_
    refine mw_top (x' := (D 7 (((p_trackBetween D (p_endOf D r) c)).toNatClampNeg))) (bk_i (j := 7) (by decide)) ?_
    refine mw_istore [(4, .int (D 7 (((p_trackBetween D (p_endOf D r) c)).toNatClampNeg))), (3, .int (p_trackBetween D (p_endOf D r) c)), (0, .ref 25), (1, .int (nI r)), (2, .int c)] dX6_addOver_35 (Nat.le_of_ble_eq_true rfl) rfl ?_
    refine mw_iload 0 dX6_addOver_37 rfl ?_
    refine mw_iconst (v := -1) dX6_addOver_39 rfl ?_
    refine mw_icmp_eq (tgt := 90) dX6_addOver_40 (by decide) (fun c40 => ?_) (fun c40 => ?_)
    · refine mw_aload_n 2 dX6_addOver_90 rfl ?_
      refine mw_getr 6 0 dX6_addOver_91 fl_X6_12 (by decide) (by decide) rfl (rd_o hr) (rd_r0 hr) ?_
      refine mw_getr 5 12 dX6_addOver_94 fl_X6_198 (by decide) (by decide) rfl (pl_o hp) (pl_r12 hp) ?_
      refine mw_iload_n 3 dX6_addOver_97 rfl ?_
      refine mw_bipush (v := 6) dX6_addOver_98 (by decide) ?_
      refine mw_imul dX6_addOver_100 ?_
      refine mw_aload_n 2 dX6_addOver_101 rfl ?_
      refine mw_getr 6 0 dX6_addOver_102 fl_X6_12 (by decide) (by decide) rfl (rd_o hr) (rd_r0 hr) ?_
      refine mw_getr 5 11 dX6_addOver_105 fl_X6_168 (by decide) (by decide) rfl (pl_o hp) (pl_r11 hp) ?_
      refine mw_iload_n 3 dX6_addOver_108 rfl ?_
      refine mw_iaN r dX6_addOver_109 (pl_a11 hp) (by omega) (by decide) rfl ?_
      refine mw_top (x' := (D 12 r)) (bk_i (j := 12) (by decide)) ?_
      refine mw_iadd dX6_addOver_110 ?_
      refine mw_iload_n 4 dX6_addOver_111 rfl ?_
      refine mw_isN (r * 6 + (D 12 r).toNatClampNeg) dX6_addOver_112 (pl_a12 hp) (by rw [hk, nI_clamp (by omega)]; omega) (by decide) (by rw [hk, nI_clamp (by omega), nI_lit 6, pk_mul, nI_add]) ?_
      refine mw_hp (bk_si (j := 13) (by decide)) ?_
      refine mw_aload_n 2 dX6_addOver_113 rfl ?_
      refine mw_getr 6 0 dX6_addOver_114 fl_X6_12 (by decide) (by decide) rfl (rd_o hr) (rd_r0 hr) ?_
      refine mw_getr 5 11 dX6_addOver_117 fl_X6_168 (by decide) (by decide) rfl (pl_o hp) (pl_r11 hp) ?_
      refine mw_iload_n 3 dX6_addOver_120 rfl ?_
      refine mw_dup2 dX6_addOver_121 rfl rfl ?_
      refine mw_iaN r dX6_addOver_122 (pl_a11 hp) (by omega) (by decide) rfl ?_
      refine mw_top (x' := (D 12 r)) (bk_i (j := 12) (by decide)) ?_
      refine mw_iconst (v := 1) dX6_addOver_123 rfl ?_
      refine mw_iadd dX6_addOver_124 ?_
      refine mw_isN r dX6_addOver_125 (pl_a11 hp) (by omega) (by decide) rfl ?_
      refine mw_hp (bk_si (j := 12) (by decide)) ?_
      refine mw_aload_n 2 dX6_addOver_126 rfl ?_
      refine mw_getr 6 0 dX6_addOver_127 fl_X6_12 (by decide) (by decide) rfl (rd_o hr) (rd_r0 hr) ?_
      refine mw_getr 5 13 dX6_addOver_130 fl_X6_171 (by decide) (by decide) rfl (pl_o hp) (pl_r13 hp) ?_
      refine mw_iload_n 3 dX6_addOver_133 rfl ?_
      refine mw_dup2 dX6_addOver_134 rfl rfl ?_
      refine mw_iaN r dX6_addOver_135 (pl_a13 hp) (by omega) (by decide) rfl ?_
      refine mw_top (x' := (D 14 r)) (bk_i (j := 14) (by decide)) ?_
      refine mw_iconst (v := 1) dX6_addOver_136 rfl ?_
      refine mw_iload_n 4 dX6_addOver_137 rfl ?_
      refine mw_ishl dX6_addOver_138 ?_
      refine mw_ior dX6_addOver_139 ?_
      refine mw_isN r dX6_addOver_140 (pl_a13 hp) (by omega) (by decide) rfl ?_
      refine mw_hp (bk_si (j := 14) (by decide)) ?_
      refine mw_return dX6_addOver_141 rfl ⟨rfl, rfl⟩ ?_
      have e : r_addOver D r c = (u2 (u2 (u2 D 13 (r * 6 + (D 12 r).toNatClampNeg) c) 12 r ((D 12 r) + 1)) 14 r ((D 14 r) ||| (1 <<< (c &&& 31)))) := by rw [r_addOver, if_neg c19, if_pos c40]
      exact ⟨rfl, by rw [e]⟩
    · refine mw_aload_n 2 dX6_addOver_43 rfl ?_
      refine mw_getr 6 0 dX6_addOver_44 fl_X6_12 (by decide) (by decide) rfl (rd_o hr) (rd_r0 hr) ?_
      refine mw_getr 5 7 dX6_addOver_47 fl_X6_153 (by decide) (by decide) rfl (pl_o hp) (pl_r7 hp) ?_
      refine mw_iload_n 1 dX6_addOver_50 rfl ?_
      refine mw_iaN (((p_trackBetween D (p_endOf D r) c)).toNatClampNeg) dX6_addOver_51 (pl_a7 hp) (by rw [hq, nI_clamp (by omega)]; omega) (by decide) (by rw [hq, nI_clamp (by omega)]) ?_
      refine mw_top (x' := (D 8 (((p_trackBetween D (p_endOf D r) c)).toNatClampNeg))) (bk_i (j := 8) (by decide)) ?_
      refine mw_if_ne (tgt := 74) dX6_addOver_52 (by decide) (fun c52 => ?_) (fun c52 => ?_)
      · refine mw_aload_n 2 dX6_addOver_74 rfl ?_
        refine mw_getr 6 0 dX6_addOver_75 fl_X6_12 (by decide) (by decide) rfl (rd_o hr) (rd_r0 hr) ?_
        refine mw_getr 5 15 dX6_addOver_78 fl_X6_177 (by decide) (by decide) rfl (pl_o hp) (pl_r15 hp) ?_
        refine mw_iload_n 3 dX6_addOver_81 rfl ?_
        refine mw_dup2 dX6_addOver_82 rfl rfl ?_
        refine mw_iaN r dX6_addOver_83 (pl_a15 hp) (by omega) (by decide) rfl ?_
        refine mw_top (x' := (D 16 r)) (bk_i (j := 16) (by decide)) ?_
        refine mw_iconst (v := 1) dX6_addOver_84 rfl ?_
        refine mw_iload 0 dX6_addOver_85 rfl ?_
        refine mw_ishl dX6_addOver_87 ?_
        refine mw_ior dX6_addOver_88 ?_
        refine mw_isN r dX6_addOver_89 (pl_a15 hp) (by omega) (by decide) rfl ?_
        refine mw_hp (bk_si (j := 16) (by decide)) ?_
        refine mw_aload_n 2 dX6_addOver_90 rfl ?_
        refine mw_getr 6 0 dX6_addOver_91 fl_X6_12 (by decide) (by decide) rfl (rd_o hr) (rd_r0 hr) ?_
        refine mw_getr 5 12 dX6_addOver_94 fl_X6_198 (by decide) (by decide) rfl (pl_o hp) (pl_r12 hp) ?_
        refine mw_iload_n 3 dX6_addOver_97 rfl ?_
        refine mw_bipush (v := 6) dX6_addOver_98 (by decide) ?_
        refine mw_imul dX6_addOver_100 ?_
        refine mw_aload_n 2 dX6_addOver_101 rfl ?_
        refine mw_getr 6 0 dX6_addOver_102 fl_X6_12 (by decide) (by decide) rfl (rd_o hr) (rd_r0 hr) ?_
        refine mw_getr 5 11 dX6_addOver_105 fl_X6_168 (by decide) (by decide) rfl (pl_o hp) (pl_r11 hp) ?_
        refine mw_iload_n 3 dX6_addOver_108 rfl ?_
        refine mw_iaN r dX6_addOver_109 (pl_a11 hp) (by omega) (by decide) rfl ?_
        refine mw_top (x' := (D 12 r)) (bk_i (j := 12) (by decide)) ?_
        refine mw_iadd dX6_addOver_110 ?_
        refine mw_iload_n 4 dX6_addOver_111 rfl ?_
        refine mw_isN (r * 6 + (D 12 r).toNatClampNeg) dX6_addOver_112 (pl_a12 hp) (by rw [hk, nI_clamp (by omega)]; omega) (by decide) (by rw [hk, nI_clamp (by omega), nI_lit 6, pk_mul, nI_add]) ?_
        refine mw_hp (bk_si (j := 13) (by decide)) ?_
        refine mw_aload_n 2 dX6_addOver_113 rfl ?_
        refine mw_getr 6 0 dX6_addOver_114 fl_X6_12 (by decide) (by decide) rfl (rd_o hr) (rd_r0 hr) ?_
        refine mw_getr 5 11 dX6_addOver_117 fl_X6_168 (by decide) (by decide) rfl (pl_o hp) (pl_r11 hp) ?_
        refine mw_iload_n 3 dX6_addOver_120 rfl ?_
        refine mw_dup2 dX6_addOver_121 rfl rfl ?_
        refine mw_iaN r dX6_addOver_122 (pl_a11 hp) (by omega) (by decide) rfl ?_
        refine mw_top (x' := (D 12 r)) (bk_i (j := 12) (by decide)) ?_
        refine mw_iconst (v := 1) dX6_addOver_123 rfl ?_
        refine mw_iadd dX6_addOver_124 ?_
        refine mw_isN r dX6_addOver_125 (pl_a11 hp) (by omega) (by decide) rfl ?_
        refine mw_hp (bk_si (j := 12) (by decide)) ?_
        refine mw_aload_n 2 dX6_addOver_126 rfl ?_
        refine mw_getr 6 0 dX6_addOver_127 fl_X6_12 (by decide) (by decide) rfl (rd_o hr) (rd_r0 hr) ?_
        refine mw_getr 5 13 dX6_addOver_130 fl_X6_171 (by decide) (by decide) rfl (pl_o hp) (pl_r13 hp) ?_
        refine mw_iload_n 3 dX6_addOver_133 rfl ?_
        refine mw_dup2 dX6_addOver_134 rfl rfl ?_
        refine mw_iaN r dX6_addOver_135 (pl_a13 hp) (by omega) (by decide) rfl ?_
        refine mw_top (x' := (D 14 r)) (bk_i (j := 14) (by decide)) ?_
        refine mw_iconst (v := 1) dX6_addOver_136 rfl ?_
        refine mw_iload_n 4 dX6_addOver_137 rfl ?_
        refine mw_ishl dX6_addOver_138 ?_
        refine mw_ior dX6_addOver_139 ?_
        refine mw_isN r dX6_addOver_140 (pl_a13 hp) (by omega) (by decide) rfl ?_
        refine mw_hp (bk_si (j := 14) (by decide)) ?_
        refine mw_return dX6_addOver_141 rfl ⟨rfl, rfl⟩ ?_
        have e : r_addOver D r c = (u2 (u2 (u2 (u2 D 16 r ((D 16 r) ||| (1 <<< ((D 7 (((p_trackBetween D (p_endOf D r) c)).toNatClampNeg)) &&& 31)))) 13 (r * 6 + (D 12 r).toNatClampNeg) c) 12 r ((D 12 r) + 1)) 14 r ((D 14 r) ||| (1 <<< (c &&& 31)))) := by rw [r_addOver, if_neg c19, if_neg c40, if_neg c52]
        exact ⟨rfl, by rw [e]⟩
      · refine mw_aload_n 2 dX6_addOver_55 rfl ?_
        refine mw_getr 6 0 dX6_addOver_56 fl_X6_12 (by decide) (by decide) rfl (rd_o hr) (rd_r0 hr) ?_
        refine mw_getr 5 14 dX6_addOver_59 fl_X6_174 (by decide) (by decide) rfl (pl_o hp) (pl_r14 hp) ?_
        refine mw_iload_n 3 dX6_addOver_62 rfl ?_
        refine mw_dup2 dX6_addOver_63 rfl rfl ?_
        refine mw_iaN r dX6_addOver_64 (pl_a14 hp) (by omega) (by decide) rfl ?_
        refine mw_top (x' := (D 15 r)) (bk_i (j := 15) (by decide)) ?_
        refine mw_iconst (v := 1) dX6_addOver_65 rfl ?_
        refine mw_iload 0 dX6_addOver_66 rfl ?_
        refine mw_ishl dX6_addOver_68 ?_
        refine mw_ior dX6_addOver_69 ?_
        refine mw_isN r dX6_addOver_70 (pl_a14 hp) (by omega) (by decide) rfl ?_
        refine mw_hp (bk_si (j := 15) (by decide)) ?_
        refine mw_goto (tgt := 90) dX6_addOver_71 (by decide) ?_
        refine mw_aload_n 2 dX6_addOver_90 rfl ?_
        refine mw_getr 6 0 dX6_addOver_91 fl_X6_12 (by decide) (by decide) rfl (rd_o hr) (rd_r0 hr) ?_
        refine mw_getr 5 12 dX6_addOver_94 fl_X6_198 (by decide) (by decide) rfl (pl_o hp) (pl_r12 hp) ?_
        refine mw_iload_n 3 dX6_addOver_97 rfl ?_
        refine mw_bipush (v := 6) dX6_addOver_98 (by decide) ?_
        refine mw_imul dX6_addOver_100 ?_
        refine mw_aload_n 2 dX6_addOver_101 rfl ?_
        refine mw_getr 6 0 dX6_addOver_102 fl_X6_12 (by decide) (by decide) rfl (rd_o hr) (rd_r0 hr) ?_
        refine mw_getr 5 11 dX6_addOver_105 fl_X6_168 (by decide) (by decide) rfl (pl_o hp) (pl_r11 hp) ?_
        refine mw_iload_n 3 dX6_addOver_108 rfl ?_
        refine mw_iaN r dX6_addOver_109 (pl_a11 hp) (by omega) (by decide) rfl ?_
        refine mw_top (x' := (D 12 r)) (bk_i (j := 12) (by decide)) ?_
        refine mw_iadd dX6_addOver_110 ?_
        refine mw_iload_n 4 dX6_addOver_111 rfl ?_
        refine mw_isN (r * 6 + (D 12 r).toNatClampNeg) dX6_addOver_112 (pl_a12 hp) (by rw [hk, nI_clamp (by omega)]; omega) (by decide) (by rw [hk, nI_clamp (by omega), nI_lit 6, pk_mul, nI_add]) ?_
        refine mw_hp (bk_si (j := 13) (by decide)) ?_
        refine mw_aload_n 2 dX6_addOver_113 rfl ?_
        refine mw_getr 6 0 dX6_addOver_114 fl_X6_12 (by decide) (by decide) rfl (rd_o hr) (rd_r0 hr) ?_
        refine mw_getr 5 11 dX6_addOver_117 fl_X6_168 (by decide) (by decide) rfl (pl_o hp) (pl_r11 hp) ?_
        refine mw_iload_n 3 dX6_addOver_120 rfl ?_
        refine mw_dup2 dX6_addOver_121 rfl rfl ?_
        refine mw_iaN r dX6_addOver_122 (pl_a11 hp) (by omega) (by decide) rfl ?_
        refine mw_top (x' := (D 12 r)) (bk_i (j := 12) (by decide)) ?_
        refine mw_iconst (v := 1) dX6_addOver_123 rfl ?_
        refine mw_iadd dX6_addOver_124 ?_
        refine mw_isN r dX6_addOver_125 (pl_a11 hp) (by omega) (by decide) rfl ?_
        refine mw_hp (bk_si (j := 12) (by decide)) ?_
        refine mw_aload_n 2 dX6_addOver_126 rfl ?_
        refine mw_getr 6 0 dX6_addOver_127 fl_X6_12 (by decide) (by decide) rfl (rd_o hr) (rd_r0 hr) ?_
        refine mw_getr 5 13 dX6_addOver_130 fl_X6_171 (by decide) (by decide) rfl (pl_o hp) (pl_r13 hp) ?_
        refine mw_iload_n 3 dX6_addOver_133 rfl ?_
        refine mw_dup2 dX6_addOver_134 rfl rfl ?_
        refine mw_iaN r dX6_addOver_135 (pl_a13 hp) (by omega) (by decide) rfl ?_
        refine mw_top (x' := (D 14 r)) (bk_i (j := 14) (by decide)) ?_
        refine mw_iconst (v := 1) dX6_addOver_136 rfl ?_
        refine mw_iload_n 4 dX6_addOver_137 rfl ?_
        refine mw_ishl dX6_addOver_138 ?_
        refine mw_ior dX6_addOver_139 ?_
        refine mw_isN r dX6_addOver_140 (pl_a13 hp) (by omega) (by decide) rfl ?_
        refine mw_hp (bk_si (j := 14) (by decide)) ?_
        refine mw_return dX6_addOver_141 rfl ⟨rfl, rfl⟩ ?_
        have e : r_addOver D r c = (u2 (u2 (u2 (u2 D 15 r ((D 15 r) ||| (1 <<< ((D 7 (((p_trackBetween D (p_endOf D r) c)).toNatClampNeg)) &&& 31)))) 13 (r * 6 + (D 12 r).toNatClampNeg) c) 12 r ((D 12 r) + 1)) 14 r ((D 14 r) ||| (1 <<< (c &&& 31)))) := by rw [r_addOver, if_neg c19, if_neg c40, if_pos c52]
        exact ⟨rfl, by rw [e]⟩
  · refine mw_iconst (v := -1) dX6_addOver_22 rfl ?_
    refine mw_goto (tgt := 35) dX6_addOver_23 (by decide) ?_
    refine mw_istore [(4, .int (-1)), (3, .int (p_trackBetween D (p_endOf D r) c)), (0, .ref 25), (1, .int (nI r)), (2, .int c)] dX6_addOver_35 (Nat.le_of_ble_eq_true rfl) rfl ?_
    refine mw_iload 0 dX6_addOver_37 rfl ?_
    refine mw_iconst (v := -1) dX6_addOver_39 rfl ?_
    refine mw_icmp_eq (tgt := 90) dX6_addOver_40 (by decide) (fun c40 => ?_) (fun c40 => ?_)
    · refine mw_aload_n 2 dX6_addOver_90 rfl ?_
      refine mw_getr 6 0 dX6_addOver_91 fl_X6_12 (by decide) (by decide) rfl (rd_o hr) (rd_r0 hr) ?_
      refine mw_getr 5 12 dX6_addOver_94 fl_X6_198 (by decide) (by decide) rfl (pl_o hp) (pl_r12 hp) ?_
      refine mw_iload_n 3 dX6_addOver_97 rfl ?_
      refine mw_bipush (v := 6) dX6_addOver_98 (by decide) ?_
      refine mw_imul dX6_addOver_100 ?_
      refine mw_aload_n 2 dX6_addOver_101 rfl ?_
      refine mw_getr 6 0 dX6_addOver_102 fl_X6_12 (by decide) (by decide) rfl (rd_o hr) (rd_r0 hr) ?_
      refine mw_getr 5 11 dX6_addOver_105 fl_X6_168 (by decide) (by decide) rfl (pl_o hp) (pl_r11 hp) ?_
      refine mw_iload_n 3 dX6_addOver_108 rfl ?_
      refine mw_iaN r dX6_addOver_109 (pl_a11 hp) (by omega) (by decide) rfl ?_
      refine mw_top (x' := (D 12 r)) (bk_i (j := 12) (by decide)) ?_
      refine mw_iadd dX6_addOver_110 ?_
      refine mw_iload_n 4 dX6_addOver_111 rfl ?_
      refine mw_isN (r * 6 + (D 12 r).toNatClampNeg) dX6_addOver_112 (pl_a12 hp) (by rw [hk, nI_clamp (by omega)]; omega) (by decide) (by rw [hk, nI_clamp (by omega), nI_lit 6, pk_mul, nI_add]) ?_
      refine mw_hp (bk_si (j := 13) (by decide)) ?_
      refine mw_aload_n 2 dX6_addOver_113 rfl ?_
      refine mw_getr 6 0 dX6_addOver_114 fl_X6_12 (by decide) (by decide) rfl (rd_o hr) (rd_r0 hr) ?_
      refine mw_getr 5 11 dX6_addOver_117 fl_X6_168 (by decide) (by decide) rfl (pl_o hp) (pl_r11 hp) ?_
      refine mw_iload_n 3 dX6_addOver_120 rfl ?_
      refine mw_dup2 dX6_addOver_121 rfl rfl ?_
      refine mw_iaN r dX6_addOver_122 (pl_a11 hp) (by omega) (by decide) rfl ?_
      refine mw_top (x' := (D 12 r)) (bk_i (j := 12) (by decide)) ?_
      refine mw_iconst (v := 1) dX6_addOver_123 rfl ?_
      refine mw_iadd dX6_addOver_124 ?_
      refine mw_isN r dX6_addOver_125 (pl_a11 hp) (by omega) (by decide) rfl ?_
      refine mw_hp (bk_si (j := 12) (by decide)) ?_
      refine mw_aload_n 2 dX6_addOver_126 rfl ?_
      refine mw_getr 6 0 dX6_addOver_127 fl_X6_12 (by decide) (by decide) rfl (rd_o hr) (rd_r0 hr) ?_
      refine mw_getr 5 13 dX6_addOver_130 fl_X6_171 (by decide) (by decide) rfl (pl_o hp) (pl_r13 hp) ?_
      refine mw_iload_n 3 dX6_addOver_133 rfl ?_
      refine mw_dup2 dX6_addOver_134 rfl rfl ?_
      refine mw_iaN r dX6_addOver_135 (pl_a13 hp) (by omega) (by decide) rfl ?_
      refine mw_top (x' := (D 14 r)) (bk_i (j := 14) (by decide)) ?_
      refine mw_iconst (v := 1) dX6_addOver_136 rfl ?_
      refine mw_iload_n 4 dX6_addOver_137 rfl ?_
      refine mw_ishl dX6_addOver_138 ?_
      refine mw_ior dX6_addOver_139 ?_
      refine mw_isN r dX6_addOver_140 (pl_a13 hp) (by omega) (by decide) rfl ?_
      refine mw_hp (bk_si (j := 14) (by decide)) ?_
      refine mw_return dX6_addOver_141 rfl ⟨rfl, rfl⟩ ?_
      have e : r_addOver D r c = (u2 (u2 (u2 D 13 (r * 6 + (D 12 r).toNatClampNeg) c) 12 r ((D 12 r) + 1)) 14 r ((D 14 r) ||| (1 <<< (c &&& 31)))) := by rw [r_addOver, if_pos c19]
      exact ⟨rfl, by rw [e]⟩
    · exact absurd c40 (by decide)
