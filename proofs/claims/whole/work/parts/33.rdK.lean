def r_can (D : m_V) (r : Nat) (c : Int32) : Int32 := (if (p_trackBetween D (p_endOf D r) c) = (-1) then 0 else (if (p_leadsTo D ((p_trackBetween D (p_endOf D r) c)).toNatClampNeg (p_endOf D r) (D 10 (D 11 r).toNatClampNeg)) = c then (if (((D 14 r) >>> (c &&& 31)) &&& 1) = 1 then 0 else (if (D 9 ((D 11 r).toNatClampNeg)) = c then 0 else (if (D 8 (((p_trackBetween D (p_endOf D r) c)).toNatClampNeg)) = 0 then (if (D 7 (((p_trackBetween D (p_endOf D r) c)).toNatClampNeg)) = (-1) then 1 else (if (((D 16 r) >>> ((D 7 (((p_trackBetween D (p_endOf D r) c)).toNatClampNeg)) &&& 31)) &&& 1) = 0 then 1 else 0)) else (if (D 7 (((p_trackBetween D (p_endOf D r) c)).toNatClampNeg)) = (-1) then 1 else (if (((D 15 r) >>> ((D 7 (((p_trackBetween D (p_endOf D r) c)).toNatClampNeg)) &&& 31)) &&& 1) = 0 then 1 else 0))))) else 0))
set_option maxRecDepth 100000 in
set_option maxHeartbeats 4000000 in
theorem c_X6_canGoOver (d : Nat) (h : m_H) (D : m_V) (N : m_L) (hr : isRead h.2.2) (hp : isPlan h.2.2 26) (hD : blI h 26 21 D) (hDN : blJ h 26 21 N) (hN : okP D) (r g k : Nat) (c : Int32) (hr10 : r < 10) (hg : D 11 r = nI g) (hg8 : g < 8) (hk : D 12 r = nI k) (hk6 : k ≤ 6) : MC yX6_canGoOver cX6_canGoOver 8 (some .boolean) (d + 3) 0 0 [.ref 25, .int (nI r), .int c] h (m_r (.int (r_can D r c)) h) := by
  refine mc_of (by decide +kernel) (Nat.le_of_ble_eq_true rfl) ?_
  show MW (yX6_canGoOver.cls, cX6_canGoOver, 8, (some .boolean), yX6_canGoOver.name, d + 3, 0, 0) 0 (0, 0) [(0, .ref 25), (1, .int (nI r)), (2, .int c)] [] h _
  refine mw_aload_n 0 dX6_canGoOver_0 rfl ?_
  refine mw_getr 6 0 dX6_canGoOver_1 fl_X6_12 (by decide) (by decide) rfl (rd_o hr) (rd_r0 hr) ?_
  refine mw_getr 5 10 dX6_canGoOver_4 fl_X6_165 (by decide) (by decide) rfl (pl_o hp) (pl_r10 hp) ?_
  refine mw_iload_n 1 dX6_canGoOver_7 rfl ?_
  refine mw_iaN r dX6_canGoOver_8 (pl_a10 hp) (by omega) (by decide) rfl ?_
  refine mw_top (x' := (D 11 r)) (hD 11 r (by decide)) ?_
  refine mw_istore_n [(3, .int (D 11 r)), (0, .ref 25), (1, .int (nI r)), (2, .int c)] dX6_canGoOver_9 (Nat.le_of_ble_eq_true rfl) rfl ?_
  refine mw_aload_n 1 dX6_canGoOver_10 rfl ?_
  refine mw_getr 6 0 dX6_canGoOver_11 fl_X6_12 (by decide) (by decide) rfl (rd_o hr) (rd_r0 hr) ?_
  refine mw_iload_n 2 dX6_canGoOver_14 rfl ?_
  refine mw_cV (rest := []) [.int (nI r)] (c_X5_endOf d h 26 D hp hD hN r k g hr10 hk hk6 hg hg8) mY_X5_endOf dX6_canGoOver_15 ml_X6_191 (pl_o hp) rfl rfl (Nat.le_of_ble_eq_true rfl) ⟨Nat.le_refl _, Nat.le_refl _⟩ rfl ?_
  refine mw_istore [(4, .int (p_endOf D r)), (3, .int (D 11 r)), (0, .ref 25), (1, .int (nI r)), (2, .int c)] dX6_canGoOver_18 (Nat.le_of_ble_eq_true rfl) rfl ?_
  refine mw_aload_n 2 dX6_canGoOver_20 rfl ?_
  refine mw_getr 6 0 dX6_canGoOver_21 fl_X6_12 (by decide) (by decide) rfl (rd_o hr) (rd_r0 hr) ?_
  refine mw_iload 0 dX6_canGoOver_24 rfl ?_
  refine mw_iload_n 4 dX6_canGoOver_26 rfl ?_
  refine mw_cV (rest := []) [.int (p_endOf D r), .int c] (c_X5_trackBetween (d + 1) h 26 D hp hD hN _ _) mY_X5_trackBetween dX6_canGoOver_27 ml_X6_123 (pl_o hp) rfl rfl (Nat.le_of_ble_eq_true rfl) ⟨Nat.le_refl _, Nat.le_refl _⟩ rfl ?_
  refine mw_istore [(5, .int (p_trackBetween D (p_endOf D r) c)), (4, .int (p_endOf D r)), (3, .int (D 11 r)), (0, .ref 25), (1, .int (nI r)), (2, .int c)] dX6_canGoOver_30 (Nat.le_of_ble_eq_true rfl) rfl ?_
  refine mw_iload 0 dX6_canGoOver_32 rfl ?_
  refine mw_iconst (v := -1) dX6_canGoOver_34 rfl ?_
  refine mw_icmp_eq (tgt := 62) dX6_canGoOver_35 (by decide) (fun c35 => ?_) (fun c35 => ?_)
  · refine mw_iconst (v := 0) dX6_canGoOver_62 rfl ?_
    refine mw_ireturn dX6_canGoOver_63 rfl rfl ⟨rfl, rfl⟩ ?_
    have e : r_can D r c = 0 := by rw [r_can, if_pos c35]
    exact ⟨by rw [e], rfl⟩
  · obtain ⟨q, hq1, hq⟩ : ∃ q, q < 16 ∧ (p_trackBetween D (p_endOf D r) c) = nI q := by
      rcases ff_cases (fun k => decide (D 5 k = p_endOf D r ∧ D 6 k = c ∨ D 5 k = c ∧ D 6 k = p_endOf D r)) (ct D 2) 0 with e | ⟨q, -, h2, h3, -⟩
      · exact absurd e c35
      · exact ⟨q, by have := hN.2.2.1.2; omega, h3⟩
    refine mw_aload_n 3 dX6_canGoOver_38 rfl ?_
    refine mw_getr 6 0 dX6_canGoOver_39 fl_X6_12 (by decide) (by decide) rfl (rd_o hr) (rd_r0 hr) ?_
    refine mw_iload 0 dX6_canGoOver_42 rfl ?_
    refine mw_top (x' := (nI ((p_trackBetween D (p_endOf D r) c)).toNatClampNeg)) (by rw [hq, nI_clamp (by omega)]) ?_
    refine mw_iload 1 dX6_canGoOver_44 rfl ?_
    refine mw_aload_n 3 dX6_canGoOver_46 rfl ?_
    refine mw_getr 6 0 dX6_canGoOver_47 fl_X6_12 (by decide) (by decide) rfl (rd_o hr) (rd_r0 hr) ?_
    refine mw_getr 5 9 dX6_canGoOver_50 fl_X6_162 (by decide) (by decide) rfl (pl_o hp) (pl_r9 hp) ?_
    refine mw_iload_n 2 dX6_canGoOver_53 rfl ?_
    refine mw_iaN ((D 11 r).toNatClampNeg) dX6_canGoOver_54 (pl_a9 hp) (by rw [hg, nI_clamp (by omega)]; omega) (by decide) (by rw [hg, nI_clamp (by omega)]) ?_
    refine mw_top (x' := (D 10 ((D 11 r).toNatClampNeg))) (hD 10 ((D 11 r).toNatClampNeg) (by decide)) ?_
    refine mw_cV (rest := []) [.int (nI ((p_trackBetween D (p_endOf D r) c)).toNatClampNeg), .int (p_endOf D r), .int (D 10 ((D 11 r).toNatClampNeg))] (c_X5_leadsTo (d + 1) h 26 D hp hD hN _ _ _ (by rw [hq, nI_clamp (by omega)]; omega)) mY_X5_leadsTo dX6_canGoOver_55 ml_X6_194 (pl_o hp) rfl rfl (Nat.le_of_ble_eq_true rfl) ⟨Nat.le_refl _, Nat.le_refl _⟩ rfl ?_
    refine mw_iload_n 5 dX6_canGoOver_58 rfl ?_
    refine mw_icmp_eq (tgt := 64) dX6_canGoOver_59 (by decide) (fun c59 => ?_) (fun c59 => ?_)
    · refine mw_aload_n 3 dX6_canGoOver_64 rfl ?_
      refine mw_getr 6 0 dX6_canGoOver_65 fl_X6_12 (by decide) (by decide) rfl (rd_o hr) (rd_r0 hr) ?_
      refine mw_getr 5 13 dX6_canGoOver_68 fl_X6_171 (by decide) (by decide) rfl (pl_o hp) (pl_r13 hp) ?_
      refine mw_iload_n 4 dX6_canGoOver_71 rfl ?_
      refine mw_iaN r dX6_canGoOver_72 (pl_a13 hp) (by omega) (by decide) rfl ?_
      refine mw_top (x' := (D 14 r)) (hD 14 r (by decide)) ?_
      refine mw_iload_n 5 dX6_canGoOver_73 rfl ?_
      refine mw_ishr dX6_canGoOver_74 ?_
      refine mw_iconst (v := 1) dX6_canGoOver_75 rfl ?_
      refine mw_iand dX6_canGoOver_76 ?_
      refine mw_iconst (v := 1) dX6_canGoOver_77 rfl ?_
      refine mw_icmp_eq (tgt := 94) dX6_canGoOver_78 (by decide) (fun c78 => ?_) (fun c78 => ?_)
      · refine mw_iconst (v := 0) dX6_canGoOver_94 rfl ?_
        refine mw_ireturn dX6_canGoOver_95 rfl rfl ⟨rfl, rfl⟩ ?_
        have e : r_can D r c = 0 := by rw [r_can, if_neg c35, if_pos c59, if_pos c78]
        exact ⟨by rw [e], rfl⟩
      · refine mw_aload_n 3 dX6_canGoOver_81 rfl ?_
        refine mw_getr 6 0 dX6_canGoOver_82 fl_X6_12 (by decide) (by decide) rfl (rd_o hr) (rd_r0 hr) ?_
        refine mw_getr 5 8 dX6_canGoOver_85 fl_X6_159 (by decide) (by decide) rfl (pl_o hp) (pl_r8 hp) ?_
        refine mw_iload_n 2 dX6_canGoOver_88 rfl ?_
        refine mw_iaN ((D 11 r).toNatClampNeg) dX6_canGoOver_89 (pl_a8 hp) (by rw [hg, nI_clamp (by omega)]; omega) (by decide) (by rw [hg, nI_clamp (by omega)]) ?_
        refine mw_top (x' := (D 9 ((D 11 r).toNatClampNeg))) (hD 9 ((D 11 r).toNatClampNeg) (by decide)) ?_
        refine mw_iload_n 5 dX6_canGoOver_90 rfl ?_
        refine mw_icmp_ne (tgt := 96) dX6_canGoOver_91 (by decide) (fun c91 => ?_) (fun c91 => ?_)
        · refine mw_aload_n 3 dX6_canGoOver_96 rfl ?_
          refine mw_getr 6 0 dX6_canGoOver_97 fl_X6_12 (by decide) (by decide) rfl (rd_o hr) (rd_r0 hr) ?_
          refine mw_getr 5 6 dX6_canGoOver_100 fl_X6_150 (by decide) (by decide) rfl (pl_o hp) (pl_r6 hp) ?_
          refine mw_iload 0 dX6_canGoOver_103 rfl ?_
          refine mw_iaN (((p_trackBetween D (p_endOf D r) c)).toNatClampNeg) dX6_canGoOver_105 (pl_a6 hp) (by rw [hq, nI_clamp (by omega)]; omega) (by decide) (by rw [hq, nI_clamp (by omega)]) ?_
          refine mw_top (x' := (D 7 (((p_trackBetween D (p_endOf D r) c)).toNatClampNeg))) (hD 7 (((p_trackBetween D (p_endOf D r) c)).toNatClampNeg) (by decide)) ?_
          refine mw_istore [(6, .int (D 7 (((p_trackBetween D (p_endOf D r) c)).toNatClampNeg))), (5, .int (p_trackBetween D (p_endOf D r) c)), (4, .int (p_endOf D r)), (3, .int (D 11 r)), (0, .ref 25), (1, .int (nI r)), (2, .int c)] dX6_canGoOver_106 (Nat.le_of_ble_eq_true rfl) rfl ?_
          refine mw_aload_n 4 dX6_canGoOver_108 rfl ?_
          refine mw_getr 6 0 dX6_canGoOver_109 fl_X6_12 (by decide) (by decide) rfl (rd_o hr) (rd_r0 hr) ?_
          refine mw_getr 5 7 dX6_canGoOver_112 fl_X6_153 (by decide) (by decide) rfl (pl_o hp) (pl_r7 hp) ?_
          refine mw_iload 1 dX6_canGoOver_115 rfl ?_
          refine mw_iaN (((p_trackBetween D (p_endOf D r) c)).toNatClampNeg) dX6_canGoOver_117 (pl_a7 hp) (by rw [hq, nI_clamp (by omega)]; omega) (by decide) (by rw [hq, nI_clamp (by omega)]) ?_
          refine mw_top (x' := (D 8 (((p_trackBetween D (p_endOf D r) c)).toNatClampNeg))) (hD 8 (((p_trackBetween D (p_endOf D r) c)).toNatClampNeg) (by decide)) ?_
          refine mw_if_ne (tgt := 133) dX6_canGoOver_118 (by decide) (fun c118 => ?_) (fun c118 => ?_)
          · refine mw_aload_n 4 dX6_canGoOver_133 rfl ?_
            refine mw_getr 6 0 dX6_canGoOver_134 fl_X6_12 (by decide) (by decide) rfl (rd_o hr) (rd_r0 hr) ?_
            refine mw_getr 5 14 dX6_canGoOver_137 fl_X6_174 (by decide) (by decide) rfl (pl_o hp) (pl_r14 hp) ?_
            refine mw_iload_n 5 dX6_canGoOver_140 rfl ?_
            refine mw_iaN r dX6_canGoOver_141 (pl_a14 hp) (by omega) (by decide) rfl ?_
            refine mw_top (x' := (D 15 r)) (hD 15 r (by decide)) ?_
            refine mw_istore [(7, .int (D 15 r)), (6, .int (D 7 (((p_trackBetween D (p_endOf D r) c)).toNatClampNeg))), (5, .int (p_trackBetween D (p_endOf D r) c)), (4, .int (p_endOf D r)), (3, .int (D 11 r)), (0, .ref 25), (1, .int (nI r)), (2, .int c)] dX6_canGoOver_142 (Nat.le_of_ble_eq_true rfl) rfl ?_
            refine mw_iload 1 dX6_canGoOver_144 rfl ?_
            refine mw_iconst (v := -1) dX6_canGoOver_146 rfl ?_
            refine mw_icmp_eq (tgt := 160) dX6_canGoOver_147 (by decide) (fun c147 => ?_) (fun c147 => ?_)
            · refine mw_iconst (v := 1) dX6_canGoOver_160 rfl ?_
              refine mw_goto (tgt := 165) dX6_canGoOver_161 (by decide) ?_
              refine mw_ireturn dX6_canGoOver_165 rfl rfl ⟨rfl, rfl⟩ ?_
              have e : r_can D r c = 1 := by rw [r_can, if_neg c35, if_pos c59, if_neg c78, if_neg c91, if_neg c118, if_pos c147]
              exact ⟨by rw [e], rfl⟩
            · refine mw_iload 0 dX6_canGoOver_150 rfl ?_
              refine mw_iload 1 dX6_canGoOver_152 rfl ?_
              refine mw_ishr dX6_canGoOver_154 ?_
              refine mw_iconst (v := 1) dX6_canGoOver_155 rfl ?_
              refine mw_iand dX6_canGoOver_156 ?_
              refine mw_if_ne (tgt := 164) dX6_canGoOver_157 (by decide) (fun c157 => ?_) (fun c157 => ?_)
              · refine mw_iconst (v := 0) dX6_canGoOver_164 rfl ?_
                refine mw_ireturn dX6_canGoOver_165 rfl rfl ⟨rfl, rfl⟩ ?_
                have e : r_can D r c = 0 := by rw [r_can, if_neg c35, if_pos c59, if_neg c78, if_neg c91, if_neg c118, if_neg c147, if_neg c157]
                exact ⟨by rw [e], rfl⟩
              · refine mw_iconst (v := 1) dX6_canGoOver_160 rfl ?_
                refine mw_goto (tgt := 165) dX6_canGoOver_161 (by decide) ?_
                refine mw_ireturn dX6_canGoOver_165 rfl rfl ⟨rfl, rfl⟩ ?_
                have e : r_can D r c = 1 := by rw [r_can, if_neg c35, if_pos c59, if_neg c78, if_neg c91, if_neg c118, if_neg c147, if_pos c157]
                exact ⟨by rw [e], rfl⟩
          · refine mw_aload_n 4 dX6_canGoOver_121 rfl ?_
            refine mw_getr 6 0 dX6_canGoOver_122 fl_X6_12 (by decide) (by decide) rfl (rd_o hr) (rd_r0 hr) ?_
            refine mw_getr 5 15 dX6_canGoOver_125 fl_X6_177 (by decide) (by decide) rfl (pl_o hp) (pl_r15 hp) ?_
            refine mw_iload_n 5 dX6_canGoOver_128 rfl ?_
            refine mw_iaN r dX6_canGoOver_129 (pl_a15 hp) (by omega) (by decide) rfl ?_
            refine mw_top (x' := (D 16 r)) (hD 16 r (by decide)) ?_
            refine mw_goto (tgt := 142) dX6_canGoOver_130 (by decide) ?_
            refine mw_istore [(7, .int (D 16 r)), (6, .int (D 7 (((p_trackBetween D (p_endOf D r) c)).toNatClampNeg))), (5, .int (p_trackBetween D (p_endOf D r) c)), (4, .int (p_endOf D r)), (3, .int (D 11 r)), (0, .ref 25), (1, .int (nI r)), (2, .int c)] dX6_canGoOver_142 (Nat.le_of_ble_eq_true rfl) rfl ?_
            refine mw_iload 1 dX6_canGoOver_144 rfl ?_
            refine mw_iconst (v := -1) dX6_canGoOver_146 rfl ?_
            refine mw_icmp_eq (tgt := 160) dX6_canGoOver_147 (by decide) (fun c147 => ?_) (fun c147 => ?_)
            · refine mw_iconst (v := 1) dX6_canGoOver_160 rfl ?_
              refine mw_goto (tgt := 165) dX6_canGoOver_161 (by decide) ?_
              refine mw_ireturn dX6_canGoOver_165 rfl rfl ⟨rfl, rfl⟩ ?_
              have e : r_can D r c = 1 := by rw [r_can, if_neg c35, if_pos c59, if_neg c78, if_neg c91, if_pos c118, if_pos c147]
              exact ⟨by rw [e], rfl⟩
            · refine mw_iload 0 dX6_canGoOver_150 rfl ?_
              refine mw_iload 1 dX6_canGoOver_152 rfl ?_
              refine mw_ishr dX6_canGoOver_154 ?_
              refine mw_iconst (v := 1) dX6_canGoOver_155 rfl ?_
              refine mw_iand dX6_canGoOver_156 ?_
              refine mw_if_ne (tgt := 164) dX6_canGoOver_157 (by decide) (fun c157 => ?_) (fun c157 => ?_)
              · refine mw_iconst (v := 0) dX6_canGoOver_164 rfl ?_
                refine mw_ireturn dX6_canGoOver_165 rfl rfl ⟨rfl, rfl⟩ ?_
                have e : r_can D r c = 0 := by rw [r_can, if_neg c35, if_pos c59, if_neg c78, if_neg c91, if_pos c118, if_neg c147, if_neg c157]
                exact ⟨by rw [e], rfl⟩
              · refine mw_iconst (v := 1) dX6_canGoOver_160 rfl ?_
                refine mw_goto (tgt := 165) dX6_canGoOver_161 (by decide) ?_
                refine mw_ireturn dX6_canGoOver_165 rfl rfl ⟨rfl, rfl⟩ ?_
                have e : r_can D r c = 1 := by rw [r_can, if_neg c35, if_pos c59, if_neg c78, if_neg c91, if_pos c118, if_neg c147, if_pos c157]
                exact ⟨by rw [e], rfl⟩
        · refine mw_iconst (v := 0) dX6_canGoOver_94 rfl ?_
          refine mw_ireturn dX6_canGoOver_95 rfl rfl ⟨rfl, rfl⟩ ?_
          have e : r_can D r c = 0 := by rw [r_can, if_neg c35, if_pos c59, if_neg c78, if_pos c91]
          exact ⟨by rw [e], rfl⟩
    · refine mw_iconst (v := 0) dX6_canGoOver_62 rfl ?_
      refine mw_ireturn dX6_canGoOver_63 rfl rfl ⟨rfl, rfl⟩ ?_
      have e : r_can D r c = 0 := by rw [r_can, if_neg c35, if_neg c59]
      exact ⟨by rw [e], rfl⟩
