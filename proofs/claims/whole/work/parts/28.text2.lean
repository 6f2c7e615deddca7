theorem u2_eta {V : m_V} {j k : Nat} {x : Int32} (e : V j k = x) : u2 V j k x = V := by
  funext j' k'
  simp only [u2]
  split
  · rename_i c
    rw [c.1, c.2, e]
  · rfl
theorem run_step {b : Nat → Int32} {r z : Nat} {lc dc : Int32} {l : Int64} {v : Int32} (h : r < z) : t_run b (z - r) r lc dc l v = if t_letter (b r) then t_run b (z - (r + 1)) (r + 1) (lc + 1) dc (l * 32 + (b r - 97 + 1).toInt64) v else if t_digit (b r) then t_run b (z - (r + 1)) (r + 1) lc (dc + 1) l (v * 10 + (b r - 48)) else (r, lc, dc, l, v) := by
  rw [show z - r = (z - (r + 1)) + 1 by omega, t_run]
theorem skip_step {b : Nat → Int32} {r z : Nat} (h : r < z) : t_skip b (z - r) r = if t_blank (b r) then t_skip b (z - (r + 1)) (r + 1) else r := by
  rw [show z - r = (z - (r + 1)) + 1 by omega, t_skip]
def t_rrR (T : m_V) : Nat × Int32 × Int32 × Int64 × Int32 := t_run (T 1) ((T 0 1).toNatClampNeg - (T 0 3).toNatClampNeg) (T 0 3).toNatClampNeg 0 0 0 0
def t_rrV (T : m_V) (X : m_L) : m_V := u2 (u2 (u2 (u2 T 0 6 (t_rrR T).2.2.2.2) 0 3 (nI (t_rrR T).1)) 0 4 (t_kind (t_rrR T).2.1 (t_rrR T).2.2.1)) 0 8 (if t_kind (t_rrR T).2.1 (t_rrR T).2.2.1 = 1 then lo (fun k a => if X 2 k = (t_rrR T).2.2.2.1 then nI k else a) 32 (T 0 8) else T 0 8)
def t_rrL (T : m_V) (X : m_L) : m_L := u2l X 0 7 (t_rrR T).2.2.2.1
theorem u2_63 {T : m_V} {v v' x y : Int32} : u2 (u2 (u2 (u2 T 0 6 v) 0 3 x) 0 6 v') 0 3 y = u2 (u2 T 0 6 v') 0 3 y := by
  funext j k
  by_cases a : j = 0 ∧ k = 3
  · simp [u2, a]
  · by_cases c : j = 0 ∧ k = 6
    · simp [u2, c]
    · simp [u2, a, c]
theorem u2_33 {T : m_V} {v x y : Int32} : u2 (u2 (u2 T 0 6 v) 0 3 x) 0 3 y = u2 (u2 T 0 6 v) 0 3 y := u2_u2
theorem u2l_u2l {V : m_L} {j k : Nat} {x y : Int64} : u2l (u2l V j k x) j k y = u2l V j k y := by
  funext j' k'
  simp only [u2l]
  split <;> rfl
set_option maxRecDepth 100000 in
set_option maxHeartbeats 4000000 in
theorem c_X10_readRun (d : Nat) (h : m_H) (T : m_V) (X : m_L) (hx : isText h.2.2) (hT : blI h 1 3 T) (hX : blJ h 1 3 X) (z r : Nat) (hz : T 0 1 = nI z) (hz0 : z ≤ 1460) (hr : T 0 3 = nI r) (hrz : r ≤ z) : MC yX10_readRun cX10_readRun 4 none (d + 2) 0 0 [.ref 1] h (m_rn (m_bk h 1 3 (t_rrV T X) (t_rrL T X))) := by
  refine mc_of (by decide +kernel) (Nat.le_of_ble_eq_true rfl) ?_
  show MW (yX10_readRun.cls, cX10_readRun, 4, none, yX10_readRun.name, d + 2, 0, 0) 0 (0, 0) [(0, .ref 1)] [] h _
  refine mw_hp (bk_self (n := 3) hT hX) ?_
  refine mw_iconst (v := 0) dX10_readRun_0 rfl ?_
  refine mw_istore_n [(1, .int 0), (0, .ref 1)] dX10_readRun_1 (Nat.le_of_ble_eq_true rfl) rfl ?_
  refine mw_iconst (v := 0) dX10_readRun_2 rfl ?_
  refine mw_istore_n [(2, .int 0), (1, .int 0), (0, .ref 1)] dX10_readRun_3 (Nat.le_of_ble_eq_true rfl) rfl ?_
  refine mw_aload_n 2 dX10_readRun_4 rfl ?_
  refine mw_lconst (v := 0) dX10_readRun_5 (by decide) ?_
  refine mw_putl 10 7 dX10_readRun_6 fl_X10_34 (by decide) (by decide) rfl rfl (tx_o hx) ?_
  refine mw_hp (bk_sj (j := 0) (by decide)) ?_
  refine mw_aload_n 2 dX10_readRun_9 rfl ?_
  refine mw_iconst (v := 0) dX10_readRun_10 rfl ?_
  refine mw_puti 10 6 dX10_readRun_11 fl_X10_31 (by decide) (by decide) rfl rfl (tx_o hx) ⟨rfl, rfl⟩ ?_
  refine mw_hp (bk_si (j := 0) (by decide)) ?_
  have L14 : ∀ (m14 : Nat) (q : Nat) (lc dc : Int32) (l : Int64) (v : Int32), (q ≤ z) → (r ≤ q) → (t_run (T 1) (z - r) r 0 0 0 0 = t_run (T 1) (z - q) q lc dc l v) → z - q < m14 → MW (yX10_readRun.cls, cX10_readRun, 4, none, yX10_readRun.name, d + 2, 0, 0) 14 (0, 0) [(1, .int lc), (2, .int dc), (0, .ref 1)] [] (m_bk h 1 3 (u2 (u2 T 0 6 v) 0 3 (nI q)) (u2l X 0 7 l)) (m_rn (m_bk h 1 3 (t_rrV T X) (t_rrL T X))) := by
    intro m14
    induction m14 with
    | zero => intro q lc dc l v _ _ _ hm14; exact absurd hm14 (Nat.not_lt_zero _)
    | succ m14 ih14 =>
      intro q lc dc l v hq hrq hrun hm14
      refine mw_aload_n 2 dX10_readRun_14 rfl ?_
      have J144 : (t_run (T 1) (z - r) r 0 0 0 0 = (q, lc, dc, l, v)) → MW (yX10_readRun.cls, cX10_readRun, 4, none, yX10_readRun.name, d + 2, 0, 0) 144 (0, 0) [(1, .int lc), (2, .int dc), (0, .ref 1)] [] (m_bk h 1 3 (u2 (u2 T 0 6 v) 0 3 (nI q)) (u2l X 0 7 l)) (m_rn (m_bk h 1 3 (t_rrV T X) (t_rrL T X))) := by
        intro  hR
        have J180 : ∀ (kd : Int32), (kd = t_kind lc dc) → MW (yX10_readRun.cls, cX10_readRun, 4, none, yX10_readRun.name, d + 2, 0, 0) 180 (0, 0) [(1, .int lc), (2, .int dc), (0, .ref 1)] [] (m_bk h 1 3 (u2 (u2 (u2 T 0 6 v) 0 3 (nI q)) 0 4 kd) (u2l X 0 7 l)) (m_rn (m_bk h 1 3 (t_rrV T X) (t_rrL T X))) := by
          intro kd hkd
          refine mw_iconst (v := 0) dX10_readRun_180 rfl ?_
          refine mw_istore_n [(3, .int 0), (1, .int lc), (2, .int dc), (0, .ref 1)] dX10_readRun_181 (Nat.le_of_ble_eq_true rfl) rfl ?_
          have L182 : ∀ (m182 : Nat) (i : Nat) (ky : Int32), (i ≤ 32) → (kd = 1 ∨ i = 0) → (ky = lo (fun k a => if X 2 k = l then nI k else a) i (T 0 8)) → 32 - i < m182 → MW (yX10_readRun.cls, cX10_readRun, 4, none, yX10_readRun.name, d + 2, 0, 0) 182 (0, 0) [(3, .int (nI i)), (0, .ref 1)] [] (m_bk h 1 3 (u2 (u2 (u2 (u2 T 0 6 v) 0 3 (nI q)) 0 4 kd) 0 8 ky) (u2l X 0 7 l)) (m_rn (m_bk h 1 3 (t_rrV T X) (t_rrL T X))) := by
            intro m182
            induction m182 with
            | zero => intro i ky _ _ _ hm182; exact absurd hm182 (Nat.not_lt_zero _)
            | succ m182 ih182 =>
              intro i ky hi hk1 hky hm182
              refine mw_iload_n 0 dX10_readRun_182 rfl ?_
              refine mw_aload_n 1 dX10_readRun_183 rfl ?_
              refine mw_getr 10 11 dX10_readRun_184 fl_X10_51 (by decide) (by decide) rfl (tx_o hx) (tx_r11 hx) ?_
              refine mw_alen (t := 1) (by decide) dX10_readRun_187 (tx_a11 hx) ?_
              refine mw_icmp_ge (tgt := 224) dX10_readRun_188 (by decide) (fun ck => ?_) (fun ck => ?_)
              · have ck := (nI_leI (by omega) (by omega)).mp ck
                refine mw_return dX10_readRun_224 rfl ⟨rfl, rfl⟩ ?_
                have hRR : t_rrR T = (q, lc, dc, l, v) := by rw [t_rrR, hz, hr, nI_clamp (by omega), nI_clamp (by omega)]; exact hR
                refine ⟨rfl, ?_⟩
                rw [t_rrV, t_rrL, hRR]
                show m_bk h 1 3 _ _ = m_bk h 1 3 (u2 (u2 (u2 (u2 T 0 6 v) 0 3 (nI q)) 0 4 (t_kind lc dc)) 0 8 (if t_kind lc dc = 1 then lo (fun k a => if X 2 k = l then nI k else a) 32 (T 0 8) else T 0 8)) (u2l X 0 7 l)
                rw [← hkd]
                first | (rw [if_neg c196, hky, hk1.resolve_left c196]; rfl) | (rcases hk1 with e | e; (rw [if_pos e, hky, show i = 32 by omega]); omega)
              · have ck := mt (nI_leI (by omega) (by omega)).mpr ck
                refine mw_aload_n 1 dX10_readRun_191 rfl ?_
                refine mw_geti 10 4 dX10_readRun_192 fl_X10_25 (by decide) (by decide) rfl (tx_o hx) ?_
                refine mw_top (x' := kd) (bk_i (j := 0) (by decide)) ?_
                refine mw_iconst (v := 1) dX10_readRun_195 rfl ?_
                refine mw_icmp_ne (tgt := 224) dX10_readRun_196 (by decide) (fun c196 => ?_) (fun c196 => ?_)
                · refine mw_return dX10_readRun_224 rfl ⟨rfl, rfl⟩ ?_
                  have hRR : t_rrR T = (q, lc, dc, l, v) := by rw [t_rrR, hz, hr, nI_clamp (by omega), nI_clamp (by omega)]; exact hR
                  refine ⟨rfl, ?_⟩
                  rw [t_rrV, t_rrL, hRR]
                  show m_bk h 1 3 _ _ = m_bk h 1 3 (u2 (u2 (u2 (u2 T 0 6 v) 0 3 (nI q)) 0 4 (t_kind lc dc)) 0 8 (if t_kind lc dc = 1 then lo (fun k a => if X 2 k = l then nI k else a) 32 (T 0 8) else T 0 8)) (u2l X 0 7 l)
                  rw [← hkd]
                  first | (rw [if_neg c196, hky, hk1.resolve_left c196]; rfl) | (rcases hk1 with e | e; (rw [if_pos e, hky, show i = 32 by omega]); omega)
                · refine mw_aload_n 1 dX10_readRun_199 rfl ?_
                  refine mw_getr 10 11 dX10_readRun_200 fl_X10_51 (by decide) (by decide) rfl (tx_o hx) (tx_r11 hx) ?_
                  refine mw_iload_n 0 dX10_readRun_203 rfl ?_
                  refine mw_laN i dX10_readRun_204 (tx_a11 hx) (by omega) (by decide) rfl ?_
                  refine mw_topl (x' := (X 2 i)) (bk_l (j := 2) (by decide)) ?_
                  refine mw_aload_n 1 dX10_readRun_205 rfl ?_
                  refine mw_getl 10 7 dX10_readRun_206 fl_X10_34 (by decide) (by decide) rfl (tx_o hx) ?_
                  refine mw_topl (x' := l) (bk_l (j := 0) (by decide)) ?_
                  refine mw_lcmp dX10_readRun_209 ?_
                  refine mw_if_ne (tgt := 218) dX10_readRun_210 (by decide) (fun c210 => ?_) (fun c210 => ?_)
                  · have c210 := lg_ne.mp c210
                    refine mw_iinc 0 (nI (i + 1)) [(3, .int (nI (i + 1))), (0, .ref 1)] dX10_readRun_218 rfl (nI_1 _) (Nat.le_of_ble_eq_true rfl) rfl ?_
                    refine mw_goto (tgt := 182) dX10_readRun_221 (by decide) ?_
                    refine ih182 _ _ ?_ ?_ ?_ ?_
                    · first | omega | rfl | assumption | (simp_all [bo]; done)
                    · exact Or.inl c196
                    · first | (rw [lo, ← hky, if_pos c210]; done) | (rw [lo, ← hky, if_neg c210]; done)
                    · omega
                  · have c210 := Classical.byContradiction (fun e => lg_ne.mpr e c210)
                    refine mw_aload_n 1 dX10_readRun_213 rfl ?_
                    refine mw_iload_n 0 dX10_readRun_214 rfl ?_
                    refine mw_puti 10 8 dX10_readRun_215 fl_X10_38 (by decide) (by decide) rfl rfl (tx_o hx) ⟨rfl, rfl⟩ ?_
                    refine mw_hp (bk_si (j := 0) (by decide)) ?_
                    refine mw_iinc 0 (nI (i + 1)) [(3, .int (nI (i + 1))), (0, .ref 1)] dX10_readRun_218 rfl (nI_1 _) (Nat.le_of_ble_eq_true rfl) rfl ?_
                    refine mw_goto (tgt := 182) dX10_readRun_221 (by decide) ?_
                    refine mw_hp (by rw [u2_u2]) ?_
                    refine ih182 _ _ ?_ ?_ ?_ ?_
                    · first | omega | rfl | assumption | (simp_all [bo]; done)
                    · exact Or.inl c196
                    · first | (rw [lo, ← hky, if_pos c210]; done) | (rw [lo, ← hky, if_neg c210]; done)
                    · omega
          refine mw_hp (h' := m_bk h 1 3 (u2 (u2 (u2 (u2 T 0 6 v) 0 3 (nI q)) 0 4 kd) 0 8 (T 0 8)) (u2l X 0 7 l)) (by rw [u2_eta (show u2 (u2 (u2 T 0 6 v) 0 3 (nI q)) 0 4 kd 0 8 = T 0 8 from rfl)]) ?_
          refine mw_sub [0, 3] rfl ?_
          refine L182 _ 0 (T 0 8) ?_ ?_ ?_ (Nat.lt_succ_self _)
          · first | omega | rfl | assumption | (simp_all [bo]; done)
          · exact Or.inr rfl
          · rfl
        refine mw_iload_n 1 dX10_readRun_144 rfl ?_
        refine mw_if_ne (tgt := 162) dX10_readRun_145 (by decide) (fun c145 => ?_) (fun c145 => ?_)
        · refine mw_aload_n 2 dX10_readRun_162 rfl ?_
          refine mw_iload_n 0 dX10_readRun_163 rfl ?_
          refine mw_if_ne (tgt := 176) dX10_readRun_164 (by decide) (fun c164 => ?_) (fun c164 => ?_)
          · refine mw_iconst (v := 4) dX10_readRun_176 rfl ?_
            refine mw_puti 10 4 dX10_readRun_177 fl_X10_25 (by decide) (by decide) rfl rfl (tx_o hx) ⟨rfl, rfl⟩ ?_
            refine mw_hp (bk_si (j := 0) (by decide)) ?_
            refine J180 _ ?_
            · rw [t_kind, if_neg (fun e => c145 e.1), if_neg (fun e => c164 e.1)]
          · refine mw_iload_n 1 dX10_readRun_167 rfl ?_
            refine mw_iconst (v := 3) dX10_readRun_168 rfl ?_
            refine mw_icmp_gt (tgt := 176) dX10_readRun_169 (by decide) (fun c169 => ?_) (fun c169 => ?_)
            · have c169 : ¬ dc ≤ 3 := by rw [i32_le]; rw [i32_lt] at c169; omega
              refine mw_iconst (v := 4) dX10_readRun_176 rfl ?_
              refine mw_puti 10 4 dX10_readRun_177 fl_X10_25 (by decide) (by decide) rfl rfl (tx_o hx) ⟨rfl, rfl⟩ ?_
              refine mw_hp (bk_si (j := 0) (by decide)) ?_
              refine J180 _ ?_
              · rw [t_kind, if_neg (fun e => c145 e.1), if_neg (fun e => c169 e.2)]
            · have c169 : dc ≤ 3 := by rw [i32_le]; rw [i32_lt] at c169; omega
              refine mw_iconst (v := 2) dX10_readRun_172 rfl ?_
              refine mw_goto (tgt := 177) dX10_readRun_173 (by decide) ?_
              refine mw_puti 10 4 dX10_readRun_177 fl_X10_25 (by decide) (by decide) rfl rfl (tx_o hx) ⟨rfl, rfl⟩ ?_
              refine mw_hp (bk_si (j := 0) (by decide)) ?_
              refine J180 _ ?_
              · rw [t_kind, if_neg (fun e => c145 e.1), if_pos ⟨c164, c169⟩]
        · refine mw_iload_n 0 dX10_readRun_148 rfl ?_
          refine mw_bipush (v := 7) dX10_readRun_149 (by decide) ?_
          refine mw_icmp_gt (tgt := 162) dX10_readRun_151 (by decide) (fun c151 => ?_) (fun c151 => ?_)
          · have c151 : ¬ lc ≤ 7 := by rw [i32_le]; rw [i32_lt] at c151; omega
            refine mw_aload_n 2 dX10_readRun_162 rfl ?_
            refine mw_iload_n 0 dX10_readRun_163 rfl ?_
            refine mw_if_ne (tgt := 176) dX10_readRun_164 (by decide) (fun c164 => ?_) (fun c164 => ?_)
            · refine mw_iconst (v := 4) dX10_readRun_176 rfl ?_
              refine mw_puti 10 4 dX10_readRun_177 fl_X10_25 (by decide) (by decide) rfl rfl (tx_o hx) ⟨rfl, rfl⟩ ?_
              refine mw_hp (bk_si (j := 0) (by decide)) ?_
              refine J180 _ ?_
              · rw [t_kind, if_neg (fun e => c151 e.2), if_neg (fun e => c164 e.1)]
            · refine mw_iload_n 1 dX10_readRun_167 rfl ?_
              refine mw_iconst (v := 3) dX10_readRun_168 rfl ?_
              refine mw_icmp_gt (tgt := 176) dX10_readRun_169 (by decide) (fun c169 => ?_) (fun c169 => ?_)
              · have c169 : ¬ dc ≤ 3 := by rw [i32_le]; rw [i32_lt] at c169; omega
                refine mw_iconst (v := 4) dX10_readRun_176 rfl ?_
                refine mw_puti 10 4 dX10_readRun_177 fl_X10_25 (by decide) (by decide) rfl rfl (tx_o hx) ⟨rfl, rfl⟩ ?_
                refine mw_hp (bk_si (j := 0) (by decide)) ?_
                refine J180 _ ?_
                · rw [t_kind, if_neg (fun e => c151 e.2), if_neg (fun e => c169 e.2)]
              · have c169 : dc ≤ 3 := by rw [i32_le]; rw [i32_lt] at c169; omega
                refine mw_iconst (v := 2) dX10_readRun_172 rfl ?_
                refine mw_goto (tgt := 177) dX10_readRun_173 (by decide) ?_
                refine mw_puti 10 4 dX10_readRun_177 fl_X10_25 (by decide) (by decide) rfl rfl (tx_o hx) ⟨rfl, rfl⟩ ?_
                refine mw_hp (bk_si (j := 0) (by decide)) ?_
                refine J180 _ ?_
                · rw [t_kind, if_neg (fun e => c151 e.2), if_pos ⟨c164, c169⟩]
          · have c151 : lc ≤ 7 := by rw [i32_le]; rw [i32_lt] at c151; omega
            refine mw_aload_n 2 dX10_readRun_154 rfl ?_
            refine mw_iconst (v := 1) dX10_readRun_155 rfl ?_
            refine mw_puti 10 4 dX10_readRun_156 fl_X10_25 (by decide) (by decide) rfl rfl (tx_o hx) ⟨rfl, rfl⟩ ?_
            refine mw_hp (bk_si (j := 0) (by decide)) ?_
            refine mw_goto (tgt := 180) dX10_readRun_159 (by decide) ?_
            refine J180 _ ?_
            · rw [t_kind, if_pos ⟨c145, c151⟩]
      refine mw_geti 10 3 dX10_readRun_15 fl_X10_22 (by decide) (by decide) rfl (tx_o hx) ?_
      refine mw_top (x' := (nI q)) (bk_i (j := 0) (by decide)) ?_
      refine mw_aload_n 2 dX10_readRun_18 rfl ?_
      refine mw_geti 10 1 dX10_readRun_19 fl_X10_15 (by decide) (by decide) rfl (tx_o hx) ?_
      refine mw_top (x' := (nI z)) ((bk_i (j := 0) (by decide)).trans hz) ?_
      refine mw_icmp_ge (tgt := 144) dX10_readRun_22 (by decide) (fun cc => ?_) (fun cc => ?_)
      · have cc := (nI_leI (by omega) (by omega)).mp cc
        refine J144  ?_
        · first | (rw [hrun, show z - q = 0 by omega]; rfl) | (rw [hrun, run_step (by omega), if_neg (by simp [c37]), if_neg (by simp [c52])])
      · have cc := mt (nI_leI (by omega) (by omega)).mpr cc
        refine mw_aload_n 2 dX10_readRun_25 rfl ?_
        refine mw_getr 10 0 dX10_readRun_26 fl_X10_9 (by decide) (by decide) rfl (tx_o hx) (tx_r0 hx) ?_
        refine mw_aload_n 2 dX10_readRun_29 rfl ?_
        refine mw_geti 10 3 dX10_readRun_30 fl_X10_22 (by decide) (by decide) rfl (tx_o hx) ?_
        refine mw_top (x' := (nI q)) (bk_i (j := 0) (by decide)) ?_
        refine mw_iaN q dX10_readRun_33 (tx_a0 hx) (by omega) (by decide) rfl ?_
        refine mw_top (x' := (T 1 q)) (bk_i (j := 1) (by decide)) ?_
        refine mw_cS (rest := []) [.int (T 1 q)] (c_X10_isLetter d (m_bk h 1 3 (u2 (u2 T 0 6 v) 0 3 (nI q)) (u2l X 0 7 l)) _) mY_X10_isLetter dX10_readRun_34 ml_X10_79 rfl rfl (Nat.le_of_ble_eq_true rfl) ⟨Nat.le_refl _, Nat.le_refl _⟩ rfl ?_
        refine mw_if_ne (tgt := 55) dX10_readRun_37 (by decide) (fun c37 => ?_) (fun c37 => ?_)
        · have c37 : t_letter (T 1 q) = true := by revert c37; cases t_letter (T 1 q) <;> simp [b2]
          refine mw_aload_n 2 dX10_readRun_55 rfl ?_
          refine mw_getr 10 0 dX10_readRun_56 fl_X10_9 (by decide) (by decide) rfl (tx_o hx) (tx_r0 hx) ?_
          refine mw_aload_n 2 dX10_readRun_59 rfl ?_
          refine mw_geti 10 3 dX10_readRun_60 fl_X10_22 (by decide) (by decide) rfl (tx_o hx) ?_
          refine mw_top (x' := (nI q)) (bk_i (j := 0) (by decide)) ?_
          refine mw_iaN q dX10_readRun_63 (tx_a0 hx) (by omega) (by decide) rfl ?_
          refine mw_top (x' := (T 1 q)) (bk_i (j := 1) (by decide)) ?_
          refine mw_cS (rest := []) [.int (T 1 q)] (c_X10_isLetter d (m_bk h 1 3 (u2 (u2 T 0 6 v) 0 3 (nI q)) (u2l X 0 7 l)) _) mY_X10_isLetter dX10_readRun_64 ml_X10_79 rfl rfl (Nat.le_of_ble_eq_true rfl) ⟨Nat.le_refl _, Nat.le_refl _⟩ rfl ?_
          refine mw_if_eq (tgt := 104) dX10_readRun_67 (by decide) (fun c67 => ?_) (fun c67 => ?_)
          · have c67 : t_letter (T 1 q) = false := by revert c67; cases t_letter (T 1 q) <;> simp [b2]
            refine mw_iinc 1 (dc + 1) [(2, .int (dc + 1)), (1, .int lc), (0, .ref 1)] dX10_readRun_104 rfl rfl (Nat.le_of_ble_eq_true rfl) rfl ?_
            refine mw_aload_n 2 dX10_readRun_107 rfl ?_
            refine mw_aload_n 2 dX10_readRun_108 rfl ?_
            refine mw_geti 10 6 dX10_readRun_109 fl_X10_31 (by decide) (by decide) rfl (tx_o hx) ?_
            refine mw_top (x' := v) (bk_i (j := 0) (by decide)) ?_
            refine mw_bipush (v := 10) dX10_readRun_112 (by decide) ?_
            refine mw_imul dX10_readRun_114 ?_
            refine mw_aload_n 2 dX10_readRun_115 rfl ?_
            refine mw_getr 10 0 dX10_readRun_116 fl_X10_9 (by decide) (by decide) rfl (tx_o hx) (tx_r0 hx) ?_
            refine mw_aload_n 2 dX10_readRun_119 rfl ?_
            refine mw_geti 10 3 dX10_readRun_120 fl_X10_22 (by decide) (by decide) rfl (tx_o hx) ?_
            refine mw_top (x' := (nI q)) (bk_i (j := 0) (by decide)) ?_
            refine mw_iaN q dX10_readRun_123 (tx_a0 hx) (by omega) (by decide) rfl ?_
            refine mw_top (x' := (T 1 q)) (bk_i (j := 1) (by decide)) ?_
            refine mw_bipush (v := 48) dX10_readRun_124 (by decide) ?_
            refine mw_isub dX10_readRun_126 ?_
            refine mw_iadd dX10_readRun_127 ?_
            refine mw_puti 10 6 dX10_readRun_128 fl_X10_31 (by decide) (by decide) rfl rfl (tx_o hx) ⟨rfl, rfl⟩ ?_
            refine mw_hp (bk_si (j := 0) (by decide)) ?_
            refine mw_aload_n 2 dX10_readRun_131 rfl ?_
            refine mw_dup dX10_readRun_132 rfl ?_
            refine mw_geti 10 3 dX10_readRun_133 fl_X10_22 (by decide) (by decide) rfl (tx_o hx) ?_
            refine mw_top (x' := (nI q)) (bk_i (j := 0) (by decide)) ?_
            refine mw_iconst (v := 1) dX10_readRun_136 rfl ?_
            refine mw_iadd dX10_readRun_137 ?_
            refine mw_top (x' := (nI (q + 1))) (nI_1 q) ?_
            refine mw_puti 10 3 dX10_readRun_138 fl_X10_22 (by decide) (by decide) rfl rfl (tx_o hx) ⟨rfl, rfl⟩ ?_
            refine mw_hp (bk_si (j := 0) (by decide)) ?_
            refine mw_goto (tgt := 14) dX10_readRun_141 (by decide) ?_
            refine mw_hp (by rw [u2_63]) ?_
            refine mw_sub [1, 0, 2] rfl ?_
            refine ih14 _ _ _ _ _ ?_ ?_ ?_ ?_
            · first | omega | rfl | assumption | (simp_all [bo]; done)
            · first | omega | rfl | assumption | (simp_all [bo]; done)
            · exact absurd c37 (by simp [c67])
            · omega
          · have c67 : t_letter (T 1 q) = true := by revert c67; cases t_letter (T 1 q) <;> simp [b2]
            refine mw_iinc 0 (lc + 1) [(1, .int (lc + 1)), (2, .int dc), (0, .ref 1)] dX10_readRun_70 rfl rfl (Nat.le_of_ble_eq_true rfl) rfl ?_
            refine mw_aload_n 2 dX10_readRun_73 rfl ?_
            refine mw_aload_n 2 dX10_readRun_74 rfl ?_
            refine mw_getl 10 7 dX10_readRun_75 fl_X10_34 (by decide) (by decide) rfl (tx_o hx) ?_
            refine mw_topl (x' := l) (bk_l (j := 0) (by decide)) ?_
            refine mw_ldc2 dX10_readRun_78 cl_X10_67 ?_
            refine mw_lmul dX10_readRun_81 ?_
            refine mw_aload_n 2 dX10_readRun_82 rfl ?_
            refine mw_getr 10 0 dX10_readRun_83 fl_X10_9 (by decide) (by decide) rfl (tx_o hx) (tx_r0 hx) ?_
            refine mw_aload_n 2 dX10_readRun_86 rfl ?_
            refine mw_geti 10 3 dX10_readRun_87 fl_X10_22 (by decide) (by decide) rfl (tx_o hx) ?_
            refine mw_top (x' := (nI q)) (bk_i (j := 0) (by decide)) ?_
            refine mw_iaN q dX10_readRun_90 (tx_a0 hx) (by omega) (by decide) rfl ?_
            refine mw_top (x' := (T 1 q)) (bk_i (j := 1) (by decide)) ?_
            refine mw_bipush (v := 97) dX10_readRun_91 (by decide) ?_
            refine mw_isub dX10_readRun_93 ?_
            refine mw_iconst (v := 1) dX10_readRun_94 rfl ?_
            refine mw_iadd dX10_readRun_95 ?_
            refine mw_i2l dX10_readRun_96 ?_
            refine mw_ladd dX10_readRun_97 ?_
            refine mw_putl 10 7 dX10_readRun_98 fl_X10_34 (by decide) (by decide) rfl rfl (tx_o hx) ?_
            refine mw_hp (bk_sj (j := 0) (by decide)) ?_
            refine mw_goto (tgt := 131) dX10_readRun_101 (by decide) ?_
            refine mw_aload_n 2 dX10_readRun_131 rfl ?_
            refine mw_dup dX10_readRun_132 rfl ?_
            refine mw_geti 10 3 dX10_readRun_133 fl_X10_22 (by decide) (by decide) rfl (tx_o hx) ?_
            refine mw_top (x' := (nI q)) (bk_i (j := 0) (by decide)) ?_
            refine mw_iconst (v := 1) dX10_readRun_136 rfl ?_
            refine mw_iadd dX10_readRun_137 ?_
            refine mw_top (x' := (nI (q + 1))) (nI_1 q) ?_
            refine mw_puti 10 3 dX10_readRun_138 fl_X10_22 (by decide) (by decide) rfl rfl (tx_o hx) ⟨rfl, rfl⟩ ?_
            refine mw_hp (bk_si (j := 0) (by decide)) ?_
            refine mw_goto (tgt := 14) dX10_readRun_141 (by decide) ?_
            refine mw_hp (by rw [u2_33, u2l_u2l]) ?_
            refine ih14 _ _ _ _ _ ?_ ?_ ?_ ?_
            · first | omega | rfl | assumption | (simp_all [bo]; done)
            · first | omega | rfl | assumption | (simp_all [bo]; done)
            · rw [hrun, run_step (by omega), if_pos c67]
            · omega
        · have c37 : t_letter (T 1 q) = false := by revert c37; cases t_letter (T 1 q) <;> simp [b2]
          refine mw_aload_n 2 dX10_readRun_40 rfl ?_
          refine mw_getr 10 0 dX10_readRun_41 fl_X10_9 (by decide) (by decide) rfl (tx_o hx) (tx_r0 hx) ?_
          refine mw_aload_n 2 dX10_readRun_44 rfl ?_
          refine mw_geti 10 3 dX10_readRun_45 fl_X10_22 (by decide) (by decide) rfl (tx_o hx) ?_
          refine mw_top (x' := (nI q)) (bk_i (j := 0) (by decide)) ?_
          refine mw_iaN q dX10_readRun_48 (tx_a0 hx) (by omega) (by decide) rfl ?_
          refine mw_top (x' := (T 1 q)) (bk_i (j := 1) (by decide)) ?_
          refine mw_cS (rest := []) [.int (T 1 q)] (c_X10_isDigit d (m_bk h 1 3 (u2 (u2 T 0 6 v) 0 3 (nI q)) (u2l X 0 7 l)) _) mY_X10_isDigit dX10_readRun_49 ml_X10_82 rfl rfl (Nat.le_of_ble_eq_true rfl) ⟨Nat.le_refl _, Nat.le_refl _⟩ rfl ?_
          refine mw_if_eq (tgt := 144) dX10_readRun_52 (by decide) (fun c52 => ?_) (fun c52 => ?_)
          · have c52 : t_digit (T 1 q) = false := by revert c52; cases t_digit (T 1 q) <;> simp [b2]
            refine J144  ?_
            · first | (rw [hrun, show z - q = 0 by omega]; rfl) | (rw [hrun, run_step (by omega), if_neg (by simp [c37]), if_neg (by simp [c52])])
          · have c52 : t_digit (T 1 q) = true := by revert c52; cases t_digit (T 1 q) <;> simp [b2]
            refine mw_aload_n 2 dX10_readRun_55 rfl ?_
            refine mw_getr 10 0 dX10_readRun_56 fl_X10_9 (by decide) (by decide) rfl (tx_o hx) (tx_r0 hx) ?_
            refine mw_aload_n 2 dX10_readRun_59 rfl ?_
            refine mw_geti 10 3 dX10_readRun_60 fl_X10_22 (by decide) (by decide) rfl (tx_o hx) ?_
            refine mw_top (x' := (nI q)) (bk_i (j := 0) (by decide)) ?_
            refine mw_iaN q dX10_readRun_63 (tx_a0 hx) (by omega) (by decide) rfl ?_
            refine mw_top (x' := (T 1 q)) (bk_i (j := 1) (by decide)) ?_
            refine mw_cS (rest := []) [.int (T 1 q)] (c_X10_isLetter d (m_bk h 1 3 (u2 (u2 T 0 6 v) 0 3 (nI q)) (u2l X 0 7 l)) _) mY_X10_isLetter dX10_readRun_64 ml_X10_79 rfl rfl (Nat.le_of_ble_eq_true rfl) ⟨Nat.le_refl _, Nat.le_refl _⟩ rfl ?_
            refine mw_if_eq (tgt := 104) dX10_readRun_67 (by decide) (fun c67 => ?_) (fun c67 => ?_)
            · have c67 : t_letter (T 1 q) = false := by revert c67; cases t_letter (T 1 q) <;> simp [b2]
              refine mw_iinc 1 (dc + 1) [(2, .int (dc + 1)), (1, .int lc), (0, .ref 1)] dX10_readRun_104 rfl rfl (Nat.le_of_ble_eq_true rfl) rfl ?_
              refine mw_aload_n 2 dX10_readRun_107 rfl ?_
              refine mw_aload_n 2 dX10_readRun_108 rfl ?_
              refine mw_geti 10 6 dX10_readRun_109 fl_X10_31 (by decide) (by decide) rfl (tx_o hx) ?_
              refine mw_top (x' := v) (bk_i (j := 0) (by decide)) ?_
              refine mw_bipush (v := 10) dX10_readRun_112 (by decide) ?_
              refine mw_imul dX10_readRun_114 ?_
              refine mw_aload_n 2 dX10_readRun_115 rfl ?_
              refine mw_getr 10 0 dX10_readRun_116 fl_X10_9 (by decide) (by decide) rfl (tx_o hx) (tx_r0 hx) ?_
              refine mw_aload_n 2 dX10_readRun_119 rfl ?_
              refine mw_geti 10 3 dX10_readRun_120 fl_X10_22 (by decide) (by decide) rfl (tx_o hx) ?_
              refine mw_top (x' := (nI q)) (bk_i (j := 0) (by decide)) ?_
              refine mw_iaN q dX10_readRun_123 (tx_a0 hx) (by omega) (by decide) rfl ?_
              refine mw_top (x' := (T 1 q)) (bk_i (j := 1) (by decide)) ?_
              refine mw_bipush (v := 48) dX10_readRun_124 (by decide) ?_
              refine mw_isub dX10_readRun_126 ?_
              refine mw_iadd dX10_readRun_127 ?_
              refine mw_puti 10 6 dX10_readRun_128 fl_X10_31 (by decide) (by decide) rfl rfl (tx_o hx) ⟨rfl, rfl⟩ ?_
              refine mw_hp (bk_si (j := 0) (by decide)) ?_
              refine mw_aload_n 2 dX10_readRun_131 rfl ?_
              refine mw_dup dX10_readRun_132 rfl ?_
              refine mw_geti 10 3 dX10_readRun_133 fl_X10_22 (by decide) (by decide) rfl (tx_o hx) ?_
              refine mw_top (x' := (nI q)) (bk_i (j := 0) (by decide)) ?_
              refine mw_iconst (v := 1) dX10_readRun_136 rfl ?_
              refine mw_iadd dX10_readRun_137 ?_
              refine mw_top (x' := (nI (q + 1))) (nI_1 q) ?_
              refine mw_puti 10 3 dX10_readRun_138 fl_X10_22 (by decide) (by decide) rfl rfl (tx_o hx) ⟨rfl, rfl⟩ ?_
              refine mw_hp (bk_si (j := 0) (by decide)) ?_
              refine mw_goto (tgt := 14) dX10_readRun_141 (by decide) ?_
              refine mw_hp (by rw [u2_63]) ?_
              refine mw_sub [1, 0, 2] rfl ?_
              refine ih14 _ _ _ _ _ ?_ ?_ ?_ ?_
              · first | omega | rfl | assumption | (simp_all [bo]; done)
              · first | omega | rfl | assumption | (simp_all [bo]; done)
              · rw [hrun, run_step (by omega), if_neg (by simp [c67]), if_pos c52]
              · omega
            · have c67 : t_letter (T 1 q) = true := by revert c67; cases t_letter (T 1 q) <;> simp [b2]
              refine mw_iinc 0 (lc + 1) [(1, .int (lc + 1)), (2, .int dc), (0, .ref 1)] dX10_readRun_70 rfl rfl (Nat.le_of_ble_eq_true rfl) rfl ?_
              refine mw_aload_n 2 dX10_readRun_73 rfl ?_
              refine mw_aload_n 2 dX10_readRun_74 rfl ?_
              refine mw_getl 10 7 dX10_readRun_75 fl_X10_34 (by decide) (by decide) rfl (tx_o hx) ?_
              refine mw_topl (x' := l) (bk_l (j := 0) (by decide)) ?_
              refine mw_ldc2 dX10_readRun_78 cl_X10_67 ?_
              refine mw_lmul dX10_readRun_81 ?_
              refine mw_aload_n 2 dX10_readRun_82 rfl ?_
              refine mw_getr 10 0 dX10_readRun_83 fl_X10_9 (by decide) (by decide) rfl (tx_o hx) (tx_r0 hx) ?_
              refine mw_aload_n 2 dX10_readRun_86 rfl ?_
              refine mw_geti 10 3 dX10_readRun_87 fl_X10_22 (by decide) (by decide) rfl (tx_o hx) ?_
              refine mw_top (x' := (nI q)) (bk_i (j := 0) (by decide)) ?_
              refine mw_iaN q dX10_readRun_90 (tx_a0 hx) (by omega) (by decide) rfl ?_
              refine mw_top (x' := (T 1 q)) (bk_i (j := 1) (by decide)) ?_
              refine mw_bipush (v := 97) dX10_readRun_91 (by decide) ?_
              refine mw_isub dX10_readRun_93 ?_
              refine mw_iconst (v := 1) dX10_readRun_94 rfl ?_
              refine mw_iadd dX10_readRun_95 ?_
              refine mw_i2l dX10_readRun_96 ?_
              refine mw_ladd dX10_readRun_97 ?_
              refine mw_putl 10 7 dX10_readRun_98 fl_X10_34 (by decide) (by decide) rfl rfl (tx_o hx) ?_
              refine mw_hp (bk_sj (j := 0) (by decide)) ?_
              refine mw_goto (tgt := 131) dX10_readRun_101 (by decide) ?_
              refine mw_aload_n 2 dX10_readRun_131 rfl ?_
              refine mw_dup dX10_readRun_132 rfl ?_
              refine mw_geti 10 3 dX10_readRun_133 fl_X10_22 (by decide) (by decide) rfl (tx_o hx) ?_
              refine mw_top (x' := (nI q)) (bk_i (j := 0) (by decide)) ?_
              refine mw_iconst (v := 1) dX10_readRun_136 rfl ?_
              refine mw_iadd dX10_readRun_137 ?_
              refine mw_top (x' := (nI (q + 1))) (nI_1 q) ?_
              refine mw_puti 10 3 dX10_readRun_138 fl_X10_22 (by decide) (by decide) rfl rfl (tx_o hx) ⟨rfl, rfl⟩ ?_
              refine mw_hp (bk_si (j := 0) (by decide)) ?_
              refine mw_goto (tgt := 14) dX10_readRun_141 (by decide) ?_
              refine mw_hp (by rw [u2_33, u2l_u2l]) ?_
              refine ih14 _ _ _ _ _ ?_ ?_ ?_ ?_
              · first | omega | rfl | assumption | (simp_all [bo]; done)
              · first | omega | rfl | assumption | (simp_all [bo]; done)
              · rw [hrun, run_step (by omega), if_pos c67]
              · omega
  refine mw_hp (h' := m_bk h 1 3 (u2 (u2 T 0 6 0) 0 3 (nI r)) (u2l X 0 7 0)) (by rw [u2_eta (show u2 T 0 6 0 0 3 = nI r from hr)]) ?_
  refine mw_sub [1, 0, 2] rfl ?_
  refine L14 _ r 0 0 0 0 ?_ ?_ ?_ (Nat.lt_succ_self _)
  · first | omega | rfl | assumption | (simp_all [bo]; done)
  · first | omega | rfl | assumption | (simp_all [bo]; done)
  · rfl
