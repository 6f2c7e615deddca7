def t_sz (T : m_V) : Nat := (T 0 1).toNatClampNeg
def t_mo (T : m_V) : Nat := (T 0 2).toNatClampNeg
def t_re (T : m_V) : Nat := (T 0 3).toNatClampNeg
/-- a text that can be read: size, most bytes and the place reached are in bounds -/
def okT (T : m_V) : Prop := (T 0 1 = nI (t_sz T) ∧ t_sz T ≤ 1460) ∧ (T 0 2 = nI (t_mo T) ∧ t_mo T ≤ 1460) ∧ (T 0 3 = nI (t_re T) ∧ t_re T ≤ t_sz T)
/-- where the next token begins -/
def t_nr (T : m_V) : Nat := t_skip (T 1) (t_sz T - t_re T) (t_re T)
def t_n2 (T : m_V) : m_V := u2 (u2 T 0 8 (-1)) 0 3 (nI (t_nr T))
def t_n3 (T : m_V) : m_V := u2 (t_n2 T) 0 5 (nI (t_nr T))
/-- the text behind its next token: ints and bytes; longs -/
def t_nextV (T : m_V) (X : m_L) : m_V := if t_sz T ≤ t_nr T ∨ t_mo T ≤ t_nr T then u2 (u2 (t_n2 T) 0 4 (if t_mo T < t_sz T then 4 else 0)) 0 5 (if t_mo T < t_sz T then nI (t_mo T) else nI (t_sz T))
  else if t_letter (T 1 (t_nr T)) || t_digit (T 1 (t_nr T)) then t_rrV (t_n3 T) X else u2 (u2 (u2 (t_n3 T) 0 4 3) 0 6 (T 1 (t_nr T))) 0 3 (nI (t_nr T + 1))
def t_nextL (T : m_V) (X : m_L) : m_L := if t_sz T ≤ t_nr T ∨ t_mo T ≤ t_nr T then X else if t_letter (T 1 (t_nr T)) || t_digit (T 1 (t_nr T)) then t_rrL (t_n3 T) X else X
theorem nr_le {T : m_V} (h : okT T) : t_re T ≤ t_nr T ∧ t_nr T ≤ t_sz T := by
  have := skip_le (T 1) (t_sz T - t_re T) (t_re T)
  have h3 := h.2.2.2
  unfold t_nr
  omega
theorem min_nI {a b : Nat} (ha : a < 2 ^ 31) (hb : b < 2 ^ 31) : (if nI b < nI a then nI b else nI a) = if b < a then nI b else nI a := by simp only [nI_ltI hb ha]
theorem u2_83 {T : m_V} {x y : Int32} : u2 (u2 (u2 T 0 8 (-1)) 0 3 x) 0 3 y = u2 (u2 T 0 8 (-1)) 0 3 y := u2_u2
set_option maxRecDepth 100000 in
set_option maxHeartbeats 4000000 in
theorem c_X10_next (d : Nat) (h : m_H) (T : m_V) (X : m_L) (hx : isText h.2.2) (hT : blI h 1 3 T) (hX : blJ h 1 3 X) (ok : okT T) : MC yX10_next cX10_next 1 none (d + 3) 0 0 [.ref 1] h (m_rn (m_bk h 1 3 (t_nextV T X) (t_nextL T X))) := by
  obtain ⟨⟨e1, g1⟩, ⟨e2, g2⟩, ⟨e3, g3⟩⟩ := id ok
  refine mc_of (by decide +kernel) (Nat.le_of_ble_eq_true rfl) ?_
  show MW (yX10_next.cls, cX10_next, 1, none, yX10_next.name, d + 3, 0, 0) 0 (0, 0) [(0, .ref 1)] [] h _
  refine mw_hp (bk_self (n := 3) hT hX) ?_
  refine mw_aload_n 0 dX10_next_0 rfl ?_
  refine mw_iconst (v := -1) dX10_next_1 rfl ?_
  refine mw_puti 10 8 dX10_next_2 fl_X10_38 (by decide) (by decide) rfl rfl (tx_o hx) ⟨rfl, rfl⟩ ?_
  refine mw_hp (bk_si (j := 0) (by decide)) ?_
  have J44 : MW (yX10_next.cls, cX10_next, 1, none, yX10_next.name, d + 3, 0, 0) 44 (0, 0) [(0, .ref 1)] [] (m_bk h 1 3 (u2 (u2 T 0 8 (-1)) 0 3 (nI (t_nr T))) X) (m_rn (m_bk h 1 3 (t_nextV T X) (t_nextL T X))) := by
    have hnr := nr_le ok
    refine mw_aload_n 0 dX10_next_44 rfl ?_
    refine mw_geti 10 3 dX10_next_45 fl_X10_22 (by decide) (by decide) rfl (tx_o hx) ?_
    refine mw_top (x' := (nI (t_nr T))) (bk_i (j := 0) (by decide)) ?_
    refine mw_aload_n 0 dX10_next_48 rfl ?_
    refine mw_geti 10 1 dX10_next_49 fl_X10_15 (by decide) (by decide) rfl (tx_o hx) ?_
    refine mw_top (x' := (nI (t_sz T))) ((bk_i (j := 0) (by decide)).trans e1) ?_
    refine mw_icmp_ge (tgt := 66) dX10_next_52 (by decide) (fun c52 => ?_) (fun c52 => ?_)
    · have c52 := (nI_leI (by omega) (by omega)).mp c52
      refine mw_aload_n 0 dX10_next_66 rfl ?_
      refine mw_aload_n 0 dX10_next_67 rfl ?_
      refine mw_geti 10 1 dX10_next_68 fl_X10_15 (by decide) (by decide) rfl (tx_o hx) ?_
      refine mw_top (x' := (nI (t_sz T))) ((bk_i (j := 0) (by decide)).trans e1) ?_
      refine mw_aload_n 0 dX10_next_71 rfl ?_
      refine mw_geti 10 2 dX10_next_72 fl_X10_19 (by decide) (by decide) rfl (tx_o hx) ?_
      refine mw_top (x' := (nI (t_mo T))) ((bk_i (j := 0) (by decide)).trans e2) ?_
      refine mw_icmp_le (tgt := 82) dX10_next_75 (by decide) (fun c75 => ?_) (fun c75 => ?_)
      · have c75 := (nI_leI (by omega) (by omega)).mp c75
        refine mw_iconst (v := 0) dX10_next_82 rfl ?_
        refine mw_puti 10 4 dX10_next_83 fl_X10_25 (by decide) (by decide) rfl rfl (tx_o hx) ⟨rfl, rfl⟩ ?_
        refine mw_hp (bk_si (j := 0) (by decide)) ?_
        refine mw_aload_n 0 dX10_next_86 rfl ?_
        refine mw_aload_n 0 dX10_next_87 rfl ?_
        refine mw_geti 10 1 dX10_next_88 fl_X10_15 (by decide) (by decide) rfl (tx_o hx) ?_
        refine mw_top (x' := (nI (t_sz T))) ((bk_i (j := 0) (by decide)).trans e1) ?_
        refine mw_aload_n 0 dX10_next_91 rfl ?_
        refine mw_geti 10 2 dX10_next_92 fl_X10_19 (by decide) (by decide) rfl (tx_o hx) ?_
        refine mw_top (x' := (nI (t_mo T))) ((bk_i (j := 0) (by decide)).trans e2) ?_
        refine mw_mmin dX10_next_95 ml_X10_73 (by show 1 ≤ d + _; omega) (Nat.le_of_ble_eq_true rfl) ⟨Nat.le_refl _, Nat.le_refl _⟩ ?_
        refine mw_top (x' := (if t_mo T < t_sz T then nI (t_mo T) else nI (t_sz T))) (min_nI (by omega) (by omega)) ?_
        refine mw_puti 10 5 dX10_next_98 fl_X10_28 (by decide) (by decide) rfl rfl (tx_o hx) ⟨rfl, rfl⟩ ?_
        refine mw_hp (bk_si (j := 0) (by decide)) ?_
        refine mw_return dX10_next_101 rfl ⟨rfl, rfl⟩ ?_
        exact ⟨rfl, by rw [t_nextV, t_nextL, if_pos (Or.inl c52), if_pos (Or.inl c52), show (if t_mo T < t_sz T then (4 : Int32) else 0) = 0 from if_neg (Nat.not_lt.mpr c75)]; rfl⟩
      · have c75 := mt (nI_leI (by omega) (by omega)).mpr c75
        refine mw_iconst (v := 4) dX10_next_78 rfl ?_
        refine mw_goto (tgt := 83) dX10_next_79 (by decide) ?_
        refine mw_puti 10 4 dX10_next_83 fl_X10_25 (by decide) (by decide) rfl rfl (tx_o hx) ⟨rfl, rfl⟩ ?_
        refine mw_hp (bk_si (j := 0) (by decide)) ?_
        refine mw_aload_n 0 dX10_next_86 rfl ?_
        refine mw_aload_n 0 dX10_next_87 rfl ?_
        refine mw_geti 10 1 dX10_next_88 fl_X10_15 (by decide) (by decide) rfl (tx_o hx) ?_
        refine mw_top (x' := (nI (t_sz T))) ((bk_i (j := 0) (by decide)).trans e1) ?_
        refine mw_aload_n 0 dX10_next_91 rfl ?_
        refine mw_geti 10 2 dX10_next_92 fl_X10_19 (by decide) (by decide) rfl (tx_o hx) ?_
        refine mw_top (x' := (nI (t_mo T))) ((bk_i (j := 0) (by decide)).trans e2) ?_
        refine mw_mmin dX10_next_95 ml_X10_73 (by show 1 ≤ d + _; omega) (Nat.le_of_ble_eq_true rfl) ⟨Nat.le_refl _, Nat.le_refl _⟩ ?_
        refine mw_top (x' := (if t_mo T < t_sz T then nI (t_mo T) else nI (t_sz T))) (min_nI (by omega) (by omega)) ?_
        refine mw_puti 10 5 dX10_next_98 fl_X10_28 (by decide) (by decide) rfl rfl (tx_o hx) ⟨rfl, rfl⟩ ?_
        refine mw_hp (bk_si (j := 0) (by decide)) ?_
        refine mw_return dX10_next_101 rfl ⟨rfl, rfl⟩ ?_
        exact ⟨rfl, by rw [t_nextV, t_nextL, if_pos (Or.inl c52), if_pos (Or.inl c52), show (if t_mo T < t_sz T then (4 : Int32) else 0) = 4 from if_pos (Nat.lt_of_not_le c75)]; rfl⟩
    · have c52 := mt (nI_leI (by omega) (by omega)).mpr c52
      refine mw_aload_n 0 dX10_next_55 rfl ?_
      refine mw_geti 10 3 dX10_next_56 fl_X10_22 (by decide) (by decide) rfl (tx_o hx) ?_
      refine mw_top (x' := (nI (t_nr T))) (bk_i (j := 0) (by decide)) ?_
      refine mw_aload_n 0 dX10_next_59 rfl ?_
      refine mw_geti 10 2 dX10_next_60 fl_X10_19 (by decide) (by decide) rfl (tx_o hx) ?_
      refine mw_top (x' := (nI (t_mo T))) ((bk_i (j := 0) (by decide)).trans e2) ?_
      refine mw_icmp_lt (tgt := 102) dX10_next_63 (by decide) (fun c63 => ?_) (fun c63 => ?_)
      · have c63 := (nI_ltI (by omega) (by omega)).mp c63
        refine mw_aload_n 0 dX10_next_102 rfl ?_
        refine mw_aload_n 0 dX10_next_103 rfl ?_
        refine mw_geti 10 3 dX10_next_104 fl_X10_22 (by decide) (by decide) rfl (tx_o hx) ?_
        refine mw_top (x' := (nI (t_nr T))) (bk_i (j := 0) (by decide)) ?_
        refine mw_puti 10 5 dX10_next_107 fl_X10_28 (by decide) (by decide) rfl rfl (tx_o hx) ⟨rfl, rfl⟩ ?_
        refine mw_hp (bk_si (j := 0) (by decide)) ?_
        refine mw_aload_n 0 dX10_next_110 rfl ?_
        refine mw_getr 10 0 dX10_next_111 fl_X10_9 (by decide) (by decide) rfl (tx_o hx) (tx_r0 hx) ?_
        refine mw_aload_n 0 dX10_next_114 rfl ?_
        refine mw_geti 10 3 dX10_next_115 fl_X10_22 (by decide) (by decide) rfl (tx_o hx) ?_
        refine mw_top (x' := (nI (t_nr T))) (bk_i (j := 0) (by decide)) ?_
        refine mw_iaN (t_nr T) dX10_next_118 (tx_a0 hx) (by omega) (by decide) rfl ?_
        refine mw_top (x' := (T 1 (t_nr T))) (bk_i (j := 1) (by decide)) ?_
        refine mw_cS (rest := []) [.int (T 1 (t_nr T))] (c_X10_isLetter (d + 1) (m_bk h 1 3 (u2 (u2 (u2 T 0 8 (-1)) 0 3 (nI (t_nr T))) 0 5 (nI (t_nr T))) X) _) mY_X10_isLetter dX10_next_119 ml_X10_79 rfl rfl (Nat.le_of_ble_eq_true rfl) ⟨Nat.le_refl _, Nat.le_refl _⟩ rfl ?_
        refine mw_if_ne (tgt := 140) dX10_next_122 (by decide) (fun c122 => ?_) (fun c122 => ?_)
        · have c122 : t_letter (T 1 (t_nr T)) = true := by revert c122; cases t_letter (T 1 (t_nr T)) <;> simp [b2]
          refine mw_aload_n 0 dX10_next_140 rfl ?_
          refine mw_cVv (rest := []) [] (c_X10_readRun d (m_bk h 1 3 (u2 (u2 (u2 T 0 8 (-1)) 0 3 (nI (t_nr T))) 0 5 (nI (t_nr T))) X) _ _ hx bk_I bk_J (t_sz T) (t_nr T) e1 g1 rfl (nr_le ok).2) mY_X10_readRun dX10_next_141 ml_X10_85 (tx_o hx) rfl rfl (Nat.le_of_ble_eq_true rfl) ⟨Nat.le_refl _, Nat.le_refl _⟩ rfl ?_
          refine mw_hp bk_bk ?_
          refine mw_goto (tgt := 175) dX10_next_144 (by decide) ?_
          refine mw_return dX10_next_175 rfl ⟨rfl, rfl⟩ ?_
          have hn : ¬ (t_sz T ≤ t_nr T ∨ t_mo T ≤ t_nr T) := fun e => e.elim c52 (fun z => Nat.not_lt.mpr z c63)
          have hq : (t_letter (T 1 (t_nr T)) || t_digit (T 1 (t_nr T))) = true := by rw [c122]; rfl
          exact ⟨rfl, by rw [t_nextV, t_nextL, if_neg hn, if_neg hn, if_pos hq, if_pos hq]; rfl⟩
        · have c122 : t_letter (T 1 (t_nr T)) = false := by revert c122; cases t_letter (T 1 (t_nr T)) <;> simp [b2]
          refine mw_aload_n 0 dX10_next_125 rfl ?_
          refine mw_getr 10 0 dX10_next_126 fl_X10_9 (by decide) (by decide) rfl (tx_o hx) (tx_r0 hx) ?_
          refine mw_aload_n 0 dX10_next_129 rfl ?_
          refine mw_geti 10 3 dX10_next_130 fl_X10_22 (by decide) (by decide) rfl (tx_o hx) ?_
          refine mw_top (x' := (nI (t_nr T))) (bk_i (j := 0) (by decide)) ?_
          refine mw_iaN (t_nr T) dX10_next_133 (tx_a0 hx) (by omega) (by decide) rfl ?_
          refine mw_top (x' := (T 1 (t_nr T))) (bk_i (j := 1) (by decide)) ?_
          refine mw_cS (rest := []) [.int (T 1 (t_nr T))] (c_X10_isDigit (d + 1) (m_bk h 1 3 (u2 (u2 (u2 T 0 8 (-1)) 0 3 (nI (t_nr T))) 0 5 (nI (t_nr T))) X) _) mY_X10_isDigit dX10_next_134 ml_X10_82 rfl rfl (Nat.le_of_ble_eq_true rfl) ⟨Nat.le_refl _, Nat.le_refl _⟩ rfl ?_
          refine mw_if_eq (tgt := 147) dX10_next_137 (by decide) (fun c137 => ?_) (fun c137 => ?_)
          · have c137 : t_digit (T 1 (t_nr T)) = false := by revert c137; cases t_digit (T 1 (t_nr T)) <;> simp [b2]
            refine mw_aload_n 0 dX10_next_147 rfl ?_
            refine mw_iconst (v := 3) dX10_next_148 rfl ?_
            refine mw_puti 10 4 dX10_next_149 fl_X10_25 (by decide) (by decide) rfl rfl (tx_o hx) ⟨rfl, rfl⟩ ?_
            refine mw_hp (bk_si (j := 0) (by decide)) ?_
            refine mw_aload_n 0 dX10_next_152 rfl ?_
            refine mw_aload_n 0 dX10_next_153 rfl ?_
            refine mw_getr 10 0 dX10_next_154 fl_X10_9 (by decide) (by decide) rfl (tx_o hx) (tx_r0 hx) ?_
            refine mw_aload_n 0 dX10_next_157 rfl ?_
            refine mw_geti 10 3 dX10_next_158 fl_X10_22 (by decide) (by decide) rfl (tx_o hx) ?_
            refine mw_top (x' := (nI (t_nr T))) (bk_i (j := 0) (by decide)) ?_
            refine mw_iaN (t_nr T) dX10_next_161 (tx_a0 hx) (by omega) (by decide) rfl ?_
            refine mw_top (x' := (T 1 (t_nr T))) (bk_i (j := 1) (by decide)) ?_
            refine mw_puti 10 6 dX10_next_162 fl_X10_31 (by decide) (by decide) rfl rfl (tx_o hx) ⟨rfl, rfl⟩ ?_
            refine mw_hp (bk_si (j := 0) (by decide)) ?_
            refine mw_aload_n 0 dX10_next_165 rfl ?_
            refine mw_dup dX10_next_166 rfl ?_
            refine mw_geti 10 3 dX10_next_167 fl_X10_22 (by decide) (by decide) rfl (tx_o hx) ?_
            refine mw_top (x' := (nI (t_nr T))) (bk_i (j := 0) (by decide)) ?_
            refine mw_iconst (v := 1) dX10_next_170 rfl ?_
            refine mw_iadd dX10_next_171 ?_
            refine mw_top (x' := (nI (t_nr T + 1))) (nI_1 (t_nr T)) ?_
            refine mw_puti 10 3 dX10_next_172 fl_X10_22 (by decide) (by decide) rfl rfl (tx_o hx) ⟨rfl, rfl⟩ ?_
            refine mw_hp (bk_si (j := 0) (by decide)) ?_
            refine mw_return dX10_next_175 rfl ⟨rfl, rfl⟩ ?_
            have hn : ¬ (t_sz T ≤ t_nr T ∨ t_mo T ≤ t_nr T) := fun e => e.elim c52 (fun z => Nat.not_lt.mpr z c63)
            have hq : ¬ (t_letter (T 1 (t_nr T)) || t_digit (T 1 (t_nr T))) = true := by rw [c122, c137]; decide
            exact ⟨rfl, by rw [t_nextV, t_nextL, if_neg hn, if_neg hn, if_neg hq, if_neg hq]; rfl⟩
          · have c137 : t_digit (T 1 (t_nr T)) = true := by revert c137; cases t_digit (T 1 (t_nr T)) <;> simp [b2]
            refine mw_aload_n 0 dX10_next_140 rfl ?_
            refine mw_cVv (rest := []) [] (c_X10_readRun d (m_bk h 1 3 (u2 (u2 (u2 T 0 8 (-1)) 0 3 (nI (t_nr T))) 0 5 (nI (t_nr T))) X) _ _ hx bk_I bk_J (t_sz T) (t_nr T) e1 g1 rfl (nr_le ok).2) mY_X10_readRun dX10_next_141 ml_X10_85 (tx_o hx) rfl rfl (Nat.le_of_ble_eq_true rfl) ⟨Nat.le_refl _, Nat.le_refl _⟩ rfl ?_
            refine mw_hp bk_bk ?_
            refine mw_goto (tgt := 175) dX10_next_144 (by decide) ?_
            refine mw_return dX10_next_175 rfl ⟨rfl, rfl⟩ ?_
            have hn : ¬ (t_sz T ≤ t_nr T ∨ t_mo T ≤ t_nr T) := fun e => e.elim c52 (fun z => Nat.not_lt.mpr z c63)
            have hq : (t_letter (T 1 (t_nr T)) || t_digit (T 1 (t_nr T))) = true := by rw [c122, c137]; rfl
            exact ⟨rfl, by rw [t_nextV, t_nextL, if_neg hn, if_neg hn, if_pos hq, if_pos hq]; rfl⟩
      · have c63 := mt (nI_ltI (by omega) (by omega)).mpr c63
        refine mw_aload_n 0 dX10_next_66 rfl ?_
        refine mw_aload_n 0 dX10_next_67 rfl ?_
        refine mw_geti 10 1 dX10_next_68 fl_X10_15 (by decide) (by decide) rfl (tx_o hx) ?_
        refine mw_top (x' := (nI (t_sz T))) ((bk_i (j := 0) (by decide)).trans e1) ?_
        refine mw_aload_n 0 dX10_next_71 rfl ?_
        refine mw_geti 10 2 dX10_next_72 fl_X10_19 (by decide) (by decide) rfl (tx_o hx) ?_
        refine mw_top (x' := (nI (t_mo T))) ((bk_i (j := 0) (by decide)).trans e2) ?_
        refine mw_icmp_le (tgt := 82) dX10_next_75 (by decide) (fun c75 => ?_) (fun c75 => ?_)
        · have c75 := (nI_leI (by omega) (by omega)).mp c75
          refine mw_iconst (v := 0) dX10_next_82 rfl ?_
          refine mw_puti 10 4 dX10_next_83 fl_X10_25 (by decide) (by decide) rfl rfl (tx_o hx) ⟨rfl, rfl⟩ ?_
          refine mw_hp (bk_si (j := 0) (by decide)) ?_
          refine mw_aload_n 0 dX10_next_86 rfl ?_
          refine mw_aload_n 0 dX10_next_87 rfl ?_
          refine mw_geti 10 1 dX10_next_88 fl_X10_15 (by decide) (by decide) rfl (tx_o hx) ?_
          refine mw_top (x' := (nI (t_sz T))) ((bk_i (j := 0) (by decide)).trans e1) ?_
          refine mw_aload_n 0 dX10_next_91 rfl ?_
          refine mw_geti 10 2 dX10_next_92 fl_X10_19 (by decide) (by decide) rfl (tx_o hx) ?_
          refine mw_top (x' := (nI (t_mo T))) ((bk_i (j := 0) (by decide)).trans e2) ?_
          refine mw_mmin dX10_next_95 ml_X10_73 (by show 1 ≤ d + _; omega) (Nat.le_of_ble_eq_true rfl) ⟨Nat.le_refl _, Nat.le_refl _⟩ ?_
          refine mw_top (x' := (if t_mo T < t_sz T then nI (t_mo T) else nI (t_sz T))) (min_nI (by omega) (by omega)) ?_
          refine mw_puti 10 5 dX10_next_98 fl_X10_28 (by decide) (by decide) rfl rfl (tx_o hx) ⟨rfl, rfl⟩ ?_
          refine mw_hp (bk_si (j := 0) (by decide)) ?_
          refine mw_return dX10_next_101 rfl ⟨rfl, rfl⟩ ?_
          exact ⟨rfl, by rw [t_nextV, t_nextL, if_pos (Or.inr (Nat.le_of_not_lt c63)), if_pos (Or.inr (Nat.le_of_not_lt c63)), show (if t_mo T < t_sz T then (4 : Int32) else 0) = 0 from if_neg (Nat.not_lt.mpr c75)]; rfl⟩
        · have c75 := mt (nI_leI (by omega) (by omega)).mpr c75
          refine mw_iconst (v := 4) dX10_next_78 rfl ?_
          refine mw_goto (tgt := 83) dX10_next_79 (by decide) ?_
          refine mw_puti 10 4 dX10_next_83 fl_X10_25 (by decide) (by decide) rfl rfl (tx_o hx) ⟨rfl, rfl⟩ ?_
          refine mw_hp (bk_si (j := 0) (by decide)) ?_
          refine mw_aload_n 0 dX10_next_86 rfl ?_
          refine mw_aload_n 0 dX10_next_87 rfl ?_
          refine mw_geti 10 1 dX10_next_88 fl_X10_15 (by decide) (by decide) rfl (tx_o hx) ?_
          refine mw_top (x' := (nI (t_sz T))) ((bk_i (j := 0) (by decide)).trans e1) ?_
          refine mw_aload_n 0 dX10_next_91 rfl ?_
          refine mw_geti 10 2 dX10_next_92 fl_X10_19 (by decide) (by decide) rfl (tx_o hx) ?_
          refine mw_top (x' := (nI (t_mo T))) ((bk_i (j := 0) (by decide)).trans e2) ?_
          refine mw_mmin dX10_next_95 ml_X10_73 (by show 1 ≤ d + _; omega) (Nat.le_of_ble_eq_true rfl) ⟨Nat.le_refl _, Nat.le_refl _⟩ ?_
          refine mw_top (x' := (if t_mo T < t_sz T then nI (t_mo T) else nI (t_sz T))) (min_nI (by omega) (by omega)) ?_
          refine mw_puti 10 5 dX10_next_98 fl_X10_28 (by decide) (by decide) rfl rfl (tx_o hx) ⟨rfl, rfl⟩ ?_
          refine mw_hp (bk_si (j := 0) (by decide)) ?_
          refine mw_return dX10_next_101 rfl ⟨rfl, rfl⟩ ?_
          exact ⟨rfl, by rw [t_nextV, t_nextL, if_pos (Or.inr (Nat.le_of_not_lt c63)), if_pos (Or.inr (Nat.le_of_not_lt c63)), show (if t_mo T < t_sz T then (4 : Int32) else 0) = 4 from if_pos (Nat.lt_of_not_le c75)]; rfl⟩
  have L5 : ∀ (m5 : Nat) (q : Nat), (q ≤ t_sz T) → (t_skip (T 1) (t_sz T - q) q = t_nr T) → t_sz T - q < m5 → MW (yX10_next.cls, cX10_next, 1, none, yX10_next.name, d + 3, 0, 0) 5 (0, 0) [(0, .ref 1)] [] (m_bk h 1 3 (u2 (u2 T 0 8 (-1)) 0 3 (nI q)) X) (m_rn (m_bk h 1 3 (t_nextV T X) (t_nextL T X))) := by
    intro m5
    induction m5 with
    | zero => intro q _ _ hm5; exact absurd hm5 (Nat.not_lt_zero _)
    | succ m5 ih5 =>
      intro q hq hs hm5
      refine mw_aload_n 0 dX10_next_5 rfl ?_
      refine mw_geti 10 3 dX10_next_6 fl_X10_22 (by decide) (by decide) rfl (tx_o hx) ?_
      refine mw_top (x' := (nI q)) (bk_i (j := 0) (by decide)) ?_
      refine mw_aload_n 0 dX10_next_9 rfl ?_
      refine mw_geti 10 1 dX10_next_10 fl_X10_15 (by decide) (by decide) rfl (tx_o hx) ?_
      refine mw_top (x' := (nI (t_sz T))) ((bk_i (j := 0) (by decide)).trans e1) ?_
      refine mw_icmp_ge (tgt := 44) dX10_next_13 (by decide) (fun cc => ?_) (fun cc => ?_)
      · have cc := (nI_leI (by omega) (by omega)).mp cc
        refine mw_hp (by rw [show q = t_nr T from by rw [← hs, show t_sz T - q = 0 by omega]; rfl]) ?_
        refine J44  
      · have cc := mt (nI_leI (by omega) (by omega)).mpr cc
        refine mw_aload_n 0 dX10_next_16 rfl ?_
        refine mw_getr 10 0 dX10_next_17 fl_X10_9 (by decide) (by decide) rfl (tx_o hx) (tx_r0 hx) ?_
        refine mw_aload_n 0 dX10_next_20 rfl ?_
        refine mw_geti 10 3 dX10_next_21 fl_X10_22 (by decide) (by decide) rfl (tx_o hx) ?_
        refine mw_top (x' := (nI q)) (bk_i (j := 0) (by decide)) ?_
        refine mw_iaN q dX10_next_24 (tx_a0 hx) (by omega) (by decide) rfl ?_
        refine mw_top (x' := (T 1 q)) (bk_i (j := 1) (by decide)) ?_
        refine mw_cS (rest := []) [.int (T 1 q)] (c_X10_isBlank (d + 1) (m_bk h 1 3 (u2 (u2 T 0 8 (-1)) 0 3 (nI q)) X) _) mY_X10_isBlank dX10_next_25 ml_X10_69 rfl rfl (Nat.le_of_ble_eq_true rfl) ⟨Nat.le_refl _, Nat.le_refl _⟩ rfl ?_
        refine mw_if_eq (tgt := 44) dX10_next_28 (by decide) (fun c28 => ?_) (fun c28 => ?_)
        · have c28 : t_blank (T 1 q) = false := by revert c28; cases t_blank (T 1 q) <;> simp [b2]
          refine mw_hp (by rw [show q = t_nr T from by rw [← hs, skip_step (by omega), if_neg (by simp [c28])]]) ?_
          refine J44  
        · have c28 : t_blank (T 1 q) = true := by revert c28; cases t_blank (T 1 q) <;> simp [b2]
          refine mw_aload_n 0 dX10_next_31 rfl ?_
          refine mw_dup dX10_next_32 rfl ?_
          refine mw_geti 10 3 dX10_next_33 fl_X10_22 (by decide) (by decide) rfl (tx_o hx) ?_
          refine mw_top (x' := (nI q)) (bk_i (j := 0) (by decide)) ?_
          refine mw_iconst (v := 1) dX10_next_36 rfl ?_
          refine mw_iadd dX10_next_37 ?_
          refine mw_top (x' := (nI (q + 1))) (nI_1 q) ?_
          refine mw_puti 10 3 dX10_next_38 fl_X10_22 (by decide) (by decide) rfl rfl (tx_o hx) ⟨rfl, rfl⟩ ?_
          refine mw_hp (bk_si (j := 0) (by decide)) ?_
          refine mw_goto (tgt := 5) dX10_next_41 (by decide) ?_
          refine mw_hp (by rw [u2_83]) ?_
          refine ih5 _ ?_ ?_ ?_
          · first | omega | rfl | assumption | (simp_all [bo]; done)
          · rw [← hs, skip_step (r := q) (by omega), if_pos c28]
          · omega
  refine mw_hp (h' := m_bk h 1 3 (u2 (u2 T 0 8 (-1)) 0 3 (nI (t_re T))) X) (by rw [u2_eta (show u2 T 0 8 (-1) 0 3 = nI (t_re T) from e3)]) ?_
  refine L5 _ (t_re T) ?_ ?_ (Nat.lt_succ_self _)
  · first | omega | rfl | assumption | (simp_all [bo]; done)
  · rfl
