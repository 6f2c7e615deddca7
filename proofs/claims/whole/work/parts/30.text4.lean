theorem okT_mk {T : m_V} {z m r : Nat} (h1 : T 0 1 = nI z) (h2 : T 0 2 = nI m) (h3 : T 0 3 = nI r) (hz : z ≤ 1460) (hm : m ≤ 1460) (hr : r ≤ z) : okT T := by
  have e1 : t_sz T = z := by rw [t_sz, h1, nI_clamp (by omega)]
  have e2 : t_mo T = m := by rw [t_mo, h2, nI_clamp (by omega)]
  have e3 : t_re T = r := by rw [t_re, h3, nI_clamp (by omega)]
  exact ⟨⟨by rw [e1]; exact h1, by omega⟩, ⟨by rw [e2]; exact h2, by omega⟩, ⟨by rw [e3]; exact h3, by omega⟩⟩
theorem okT_wrong {T : m_V} (h : okT T) (w : Int32) : okT (t_wrong T w) := h
theorem okT_must {T : m_V} (h : okT T) (c : Int32) : okT (t_mustV T c) := by
  unfold t_mustV
  split
  · exact h
  · exact okT_wrong h 1
theorem n3_R {T : m_V} (h : okT T) : (t_rrR (t_n3 T)).1 ≤ t_sz T := by
  have hn := nr_le h
  have hz := h.1.2
  have e : t_rrR (t_n3 T) = t_run (T 1) (t_sz T - t_nr T) (t_nr T) 0 0 0 0 := by
    show t_run (T 1) ((T 0 1).toNatClampNeg - (nI (t_nr T)).toNatClampNeg) (nI (t_nr T)).toNatClampNeg 0 0 0 0 = _
    rw [nI_clamp (by omega)]
    rfl
  have := run_le (T 1) (t_sz T - t_nr T) (t_nr T) 0 0 0 0
  rw [e]
  omega
theorem okT_next {T : m_V} (h : okT T) (X : m_L) : okT (t_nextV T X) := by
  obtain ⟨⟨e1, g1⟩, ⟨e2, g2⟩, ⟨e3, g3⟩⟩ := id h
  have hn := nr_le h
  unfold t_nextV
  by_cases c : t_sz T ≤ t_nr T ∨ t_mo T ≤ t_nr T
  · rw [if_pos c]
    exact okT_mk (r := t_nr T) e1 e2 rfl g1 g2 hn.2
  · rw [if_neg c]
    by_cases c2 : (t_letter (T 1 (t_nr T)) || t_digit (T 1 (t_nr T))) = true
    · rw [if_pos c2]
      exact okT_mk (r := (t_rrR (t_n3 T)).1) e1 e2 rfl g1 g2 (n3_R h)
    · rw [if_neg c2]
      exact okT_mk (r := t_nr T + 1) e1 e2 rfl g1 g2 (by omega)
theorem okT_begin {T : m_V} {z m : Nat} (h1 : T 0 1 = nI z) (hz : z ≤ 1460) (hm : m ≤ 1460) : okT (t_begin T (nI m)) := okT_mk (r := 0) h1 rfl rfl hz hm (Nat.zero_le _)
def t_isName (T : m_V) : Bool := decide (T 0 4 = 1 ∧ T 0 8 = -1)
def t_name (P : m_V) (N : m_L) (T : m_V) (X : m_L) (s : Nat) : Int32 := if t_isName T then p_find P N s (X 0 7) else -1
def t_nameV (P : m_V) (N : m_L) (T : m_V) (X : m_L) (s : Nat) : m_V := if t_isName T then (if p_find P N s (X 0 7) = -1 then t_wrong T 3 else T) else t_wrong T 1
set_option maxRecDepth 100000 in
set_option maxHeartbeats 4000000 in
theorem c_X10_named (d : Nat) (h : m_H) (T : m_V) (X : m_L) (hx : isText h.2.2) (hT : blI h 1 3 T) (hX : blJ h 1 3 X) (p : Nat) (P : m_V) (N : m_L) (hp : isPlan h.2.2 p) (hP : blI h p 21 P) (hN : blJ h p 21 N) (hd : 1 + 3 ≤ p) (s n : Nat) (hs : s < 8) (hn : P 1 s = nI n) (hn12 : n ≤ 12) : MC yX10_named cX10_named 4 (some .int) (d + 2) 0 0 [.ref 1, .ref p, .int (nI s)] h (m_r (.int (t_name P N T X s)) (m_bk h 1 3 (t_nameV P N T X s) X)) := by
  refine mc_of (by decide +kernel) (Nat.le_of_ble_eq_true rfl) ?_
  show MW (yX10_named.cls, cX10_named, 4, (some .int), yX10_named.name, d + 2, 0, 0) 0 (0, 0) [(0, .ref 1), (1, .ref p), (2, .int (nI s))] [] h _
  refine mw_hp (bk_self (n := 3) hT hX) ?_
  refine mw_aload_n 0 dX10_named_0 rfl ?_
  refine mw_geti 10 4 dX10_named_1 fl_X10_25 (by decide) (by decide) rfl (tx_o hx) ?_
  refine mw_top (x' := (T 0 4)) (bk_i (j := 0) (by decide)) ?_
  refine mw_iconst (v := 1) dX10_named_4 rfl ?_
  refine mw_icmp_ne (tgt := 16) dX10_named_5 (by decide) (fun c5 => ?_) (fun c5 => ?_)
  · refine mw_aload_n 0 dX10_named_16 rfl ?_
    refine mw_iconst (v := 1) dX10_named_17 rfl ?_
    refine mw_cV (rest := []) [.int 1] (c_X10_wrong d (m_bk h 1 3 T X) _ _ hx bk_I bk_J 1) mY_X10_wrong dX10_named_18 ml_X10_92 (tx_o hx) rfl rfl (Nat.le_of_ble_eq_true rfl) ⟨Nat.le_refl _, Nat.le_refl _⟩ rfl ?_
    refine mw_hp bk_bk ?_
    refine mw_pop dX10_named_21 rfl ?_
    refine mw_iconst (v := -1) dX10_named_22 rfl ?_
    refine mw_ireturn dX10_named_23 rfl rfl ⟨rfl, rfl⟩ ?_
    have hq : t_isName T = false := by simp [t_isName, c5]
    exact ⟨by rw [t_name, hq]; rfl, by rw [t_nameV, hq]; rfl⟩
  · refine mw_aload_n 0 dX10_named_8 rfl ?_
    refine mw_geti 10 8 dX10_named_9 fl_X10_38 (by decide) (by decide) rfl (tx_o hx) ?_
    refine mw_top (x' := (T 0 8)) (bk_i (j := 0) (by decide)) ?_
    refine mw_iconst (v := -1) dX10_named_12 rfl ?_
    refine mw_icmp_eq (tgt := 24) dX10_named_13 (by decide) (fun c13 => ?_) (fun c13 => ?_)
    · refine mw_aload_n 1 dX10_named_24 rfl ?_
      refine mw_iload_n 2 dX10_named_25 rfl ?_
      refine mw_aload_n 0 dX10_named_26 rfl ?_
      refine mw_getl 10 7 dX10_named_27 fl_X10_34 (by decide) (by decide) rfl (tx_o hx) ?_
      refine mw_topl (x' := (X 0 7)) (bk_l (j := 0) (by decide)) ?_
      refine mw_cV (rest := []) [.int (nI s), .long (X 0 7)] (c_X5_find d (m_bk h 1 3 T X) p P N hp (bk_O hP (Or.inr hd)) (bk_OJ hN (Or.inr hd)) s n _ hs hn hn12) mY_X5_find dX10_named_30 ml_X10_95 (pl_o hp) rfl rfl (Nat.le_of_ble_eq_true rfl) ⟨Nat.le_refl _, Nat.le_refl _⟩ rfl ?_
      refine mw_istore_n [(3, .int (p_find P N s (X 0 7))), (0, .ref 1), (1, .ref p), (2, .int (nI s))] dX10_named_33 (Nat.le_of_ble_eq_true rfl) rfl ?_
      refine mw_iload_n 0 dX10_named_34 rfl ?_
      refine mw_iconst (v := -1) dX10_named_35 rfl ?_
      refine mw_icmp_ne (tgt := 45) dX10_named_36 (by decide) (fun c36 => ?_) (fun c36 => ?_)
      · refine mw_iload_n 0 dX10_named_45 rfl ?_
        refine mw_ireturn dX10_named_46 rfl rfl ⟨rfl, rfl⟩ ?_
        have hq : t_isName T = true := by simp [t_isName, c5, c13]
        exact ⟨by rw [t_name, hq]; rfl, by rw [t_nameV, hq]; simp only [if_true, if_neg c36]⟩
      · refine mw_aload_n 1 dX10_named_39 rfl ?_
        refine mw_iconst (v := 3) dX10_named_40 rfl ?_
        refine mw_cV (rest := []) [.int 3] (c_X10_wrong d (m_bk h 1 3 T X) _ _ hx bk_I bk_J 3) mY_X10_wrong dX10_named_41 ml_X10_92 (tx_o hx) rfl rfl (Nat.le_of_ble_eq_true rfl) ⟨Nat.le_refl _, Nat.le_refl _⟩ rfl ?_
        refine mw_hp bk_bk ?_
        refine mw_pop dX10_named_44 rfl ?_
        refine mw_iload_n 0 dX10_named_45 rfl ?_
        refine mw_ireturn dX10_named_46 rfl rfl ⟨rfl, rfl⟩ ?_
        have hq : t_isName T = true := by simp [t_isName, c5, c13]
        exact ⟨by rw [t_name, hq]; rfl, by rw [t_nameV, hq]; simp only [if_true, if_pos c36]⟩
    · refine mw_aload_n 0 dX10_named_16 rfl ?_
      refine mw_iconst (v := 1) dX10_named_17 rfl ?_
      refine mw_cV (rest := []) [.int 1] (c_X10_wrong d (m_bk h 1 3 T X) _ _ hx bk_I bk_J 1) mY_X10_wrong dX10_named_18 ml_X10_92 (tx_o hx) rfl rfl (Nat.le_of_ble_eq_true rfl) ⟨Nat.le_refl _, Nat.le_refl _⟩ rfl ?_
      refine mw_hp bk_bk ?_
      refine mw_pop dX10_named_21 rfl ?_
      refine mw_iconst (v := -1) dX10_named_22 rfl ?_
      refine mw_ireturn dX10_named_23 rfl rfl ⟨rfl, rfl⟩ ?_
      have hq : t_isName T = false := by simp [t_isName, c13]
      exact ⟨by rw [t_name, hq]; rfl, by rw [t_nameV, hq]; rfl⟩
set_option maxRecDepth 100000 in
set_option maxHeartbeats 4000000 in
theorem c_X10_nextNamed (d : Nat) (h : m_H) (T : m_V) (X : m_L) (hx : isText h.2.2) (hT : blI h 1 3 T) (hX : blJ h 1 3 X) (p : Nat) (P : m_V) (N : m_L) (hp : isPlan h.2.2 p) (hP : blI h p 21 P) (hN : blJ h p 21 N) (hd : 1 + 3 ≤ p) (s n : Nat) (hs : s < 8) (hn : P 1 s = nI n) (hn12 : n ≤ 12) (ok : okT T) : MC yX10_nextNamed cX10_nextNamed 3 (some .int) (d + 4) 0 0 [.ref 1, .ref p, .int (nI s)] h (m_r (.int (t_name P N (t_nextV T X) (t_nextL T X) s)) (m_bk h 1 3 (t_nameV P N (t_nextV T X) (t_nextL T X) s) (t_nextL T X))) := by
  refine mc_of (by decide +kernel) (Nat.le_of_ble_eq_true rfl) ?_
  show MW (yX10_nextNamed.cls, cX10_nextNamed, 3, (some .int), yX10_nextNamed.name, d + 4, 0, 0) 0 (0, 0) [(0, .ref 1), (1, .ref p), (2, .int (nI s))] [] h _
  refine mw_hp (bk_self (n := 3) hT hX) ?_
  refine mw_aload_n 0 dX10_nextNamed_0 rfl ?_
  refine mw_cVv (rest := []) [] (c_X10_next d (m_bk h 1 3 T X) _ _ hx bk_I bk_J ok) mY_X10_next dX10_nextNamed_1 ml_X10_101 (tx_o hx) rfl rfl (Nat.le_of_ble_eq_true rfl) ⟨Nat.le_refl _, Nat.le_refl _⟩ rfl ?_
  refine mw_hp bk_bk ?_
  refine mw_aload_n 0 dX10_nextNamed_4 rfl ?_
  refine mw_aload_n 1 dX10_nextNamed_5 rfl ?_
  refine mw_iload_n 2 dX10_nextNamed_6 rfl ?_
  refine mw_cV (rest := []) [.ref p, .int (nI s)] (c_X10_named (d + 1) (m_bk h 1 3 (t_nextV T X) (t_nextL T X)) _ _ hx bk_I bk_J p P N hp (bk_O hP (Or.inr hd)) (bk_OJ hN (Or.inr hd)) hd s n hs hn hn12) mY_X10_named dX10_nextNamed_7 ml_X10_104 (tx_o hx) rfl rfl (Nat.le_of_ble_eq_true rfl) ⟨Nat.le_refl _, Nat.le_refl _⟩ rfl ?_
  refine mw_hp bk_bk ?_
  refine mw_ireturn dX10_nextNamed_10 rfl rfl ⟨rfl, rfl⟩ ?_
  exact ⟨rfl, rfl⟩
def t_new (P : m_V) (N : m_L) (T : m_V) (X : m_L) : Bool := t_isName T && !p_knows P N (X 0 7)
def t_newV (P : m_V) (N : m_L) (T : m_V) (X : m_L) : m_V := if t_isName T then (if p_knows P N (X 0 7) then t_wrong T 3 else T) else t_wrong T 1
set_option maxRecDepth 100000 in
set_option maxHeartbeats 4000000 in
theorem c_X10_nextNewName (d : Nat) (h : m_H) (T : m_V) (X : m_L) (hx : isText h.2.2) (hT : blI h 1 3 T) (hX : blJ h 1 3 X) (p : Nat) (P : m_V) (N : m_L) (hp : isPlan h.2.2 p) (hP : blI h p 21 P) (hN : blJ h p 21 N) (hd : 1 + 3 ≤ p) (hok : okP P) (ok : okT T) : MC yX10_nextNewName cX10_nextNewName 2 (some .boolean) (d + 4) 0 0 [.ref 1, .ref p] h (m_r (.int (b2 (t_new P N (t_nextV T X) (t_nextL T X)))) (m_bk h 1 3 (t_newV P N (t_nextV T X) (t_nextL T X)) (t_nextL T X))) := by
  refine mc_of (by decide +kernel) (Nat.le_of_ble_eq_true rfl) ?_
  show MW (yX10_nextNewName.cls, cX10_nextNewName, 2, (some .boolean), yX10_nextNewName.name, d + 4, 0, 0) 0 (0, 0) [(0, .ref 1), (1, .ref p)] [] h _
  refine mw_hp (bk_self (n := 3) hT hX) ?_
  refine mw_aload_n 0 dX10_nextNewName_0 rfl ?_
  refine mw_cVv (rest := []) [] (c_X10_next d (m_bk h 1 3 T X) _ _ hx bk_I bk_J ok) mY_X10_next dX10_nextNewName_1 ml_X10_101 (tx_o hx) rfl rfl (Nat.le_of_ble_eq_true rfl) ⟨Nat.le_refl _, Nat.le_refl _⟩ rfl ?_
  refine mw_hp bk_bk ?_
  refine mw_aload_n 0 dX10_nextNewName_4 rfl ?_
  refine mw_geti 10 4 dX10_nextNewName_5 fl_X10_25 (by decide) (by decide) rfl (tx_o hx) ?_
  refine mw_top (x' := ((t_nextV T X) 0 4)) (bk_i (j := 0) (by decide)) ?_
  refine mw_iconst (v := 1) dX10_nextNewName_8 rfl ?_
  refine mw_icmp_ne (tgt := 20) dX10_nextNewName_9 (by decide) (fun c9 => ?_) (fun c9 => ?_)
  · refine mw_aload_n 0 dX10_nextNewName_20 rfl ?_
    refine mw_iconst (v := 1) dX10_nextNewName_21 rfl ?_
    refine mw_cV (rest := []) [.int 1] (c_X10_wrong (d + 2) (m_bk h 1 3 (t_nextV T X) (t_nextL T X)) _ _ hx bk_I bk_J 1) mY_X10_wrong dX10_nextNewName_22 ml_X10_92 (tx_o hx) rfl rfl (Nat.le_of_ble_eq_true rfl) ⟨Nat.le_refl _, Nat.le_refl _⟩ rfl ?_
    refine mw_hp bk_bk ?_
    refine mw_ireturn dX10_nextNewName_25 rfl rfl ⟨rfl, rfl⟩ ?_
    have hq : t_isName (t_nextV T X) = false := by simp [t_isName, c9]
    exact ⟨by rw [t_new, hq]; rfl, by rw [t_newV, hq]; rfl⟩
  · refine mw_aload_n 0 dX10_nextNewName_12 rfl ?_
    refine mw_geti 10 8 dX10_nextNewName_13 fl_X10_38 (by decide) (by decide) rfl (tx_o hx) ?_
    refine mw_top (x' := ((t_nextV T X) 0 8)) (bk_i (j := 0) (by decide)) ?_
    refine mw_iconst (v := -1) dX10_nextNewName_16 rfl ?_
    refine mw_icmp_eq (tgt := 26) dX10_nextNewName_17 (by decide) (fun c17 => ?_) (fun c17 => ?_)
    · refine mw_aload_n 1 dX10_nextNewName_26 rfl ?_
      refine mw_aload_n 0 dX10_nextNewName_27 rfl ?_
      refine mw_getl 10 7 dX10_nextNewName_28 fl_X10_34 (by decide) (by decide) rfl (tx_o hx) ?_
      refine mw_topl (x' := ((t_nextL T X) 0 7)) (bk_l (j := 0) (by decide)) ?_
      refine mw_cV (rest := []) [.long ((t_nextL T X) 0 7)] (c_X5_knows (d + 1) (m_bk h 1 3 (t_nextV T X) (t_nextL T X)) p P N hp (bk_O hP (Or.inr hd)) (bk_OJ hN (Or.inr hd)) hok _) mY_X5_knows dX10_nextNewName_31 ml_X10_108 (pl_o hp) rfl rfl (Nat.le_of_ble_eq_true rfl) ⟨Nat.le_refl _, Nat.le_refl _⟩ rfl ?_
      refine mw_if_eq (tgt := 45) dX10_nextNewName_34 (by decide) (fun c34 => ?_) (fun c34 => ?_)
      · have c34 : p_knows P N ((t_nextL T X) 0 7) = false := by revert c34; cases p_knows P N ((t_nextL T X) 0 7) <;> simp [b2]
        refine mw_iconst (v := 1) dX10_nextNewName_45 rfl ?_
        refine mw_goto (tgt := 50) dX10_nextNewName_46 (by decide) ?_
        refine mw_ireturn dX10_nextNewName_50 rfl rfl ⟨rfl, rfl⟩ ?_
        have hq : t_isName (t_nextV T X) = true := by simp [t_isName, c9, c17]
        exact ⟨by rw [t_new, hq, c34]; rfl, by rw [t_newV, hq, c34]; rfl⟩
      · have c34 : p_knows P N ((t_nextL T X) 0 7) = true := by revert c34; cases p_knows P N ((t_nextL T X) 0 7) <;> simp [b2]
        refine mw_aload_n 0 dX10_nextNewName_37 rfl ?_
        refine mw_iconst (v := 3) dX10_nextNewName_38 rfl ?_
        refine mw_cV (rest := []) [.int 3] (c_X10_wrong (d + 2) (m_bk h 1 3 (t_nextV T X) (t_nextL T X)) _ _ hx bk_I bk_J 3) mY_X10_wrong dX10_nextNewName_39 ml_X10_92 (tx_o hx) rfl rfl (Nat.le_of_ble_eq_true rfl) ⟨Nat.le_refl _, Nat.le_refl _⟩ rfl ?_
        refine mw_hp bk_bk ?_
        refine mw_if_eq (tgt := 49) dX10_nextNewName_42 (by decide) (fun c42 => ?_) (fun c42 => ?_)
        · refine mw_iconst (v := 0) dX10_nextNewName_49 rfl ?_
          refine mw_ireturn dX10_nextNewName_50 rfl rfl ⟨rfl, rfl⟩ ?_
          have hq : t_isName (t_nextV T X) = true := by simp [t_isName, c9, c17]
          exact ⟨by rw [t_new, hq, c34]; rfl, by rw [t_newV, hq, c34]; rfl⟩
        · exact absurd rfl c42
    · refine mw_aload_n 0 dX10_nextNewName_20 rfl ?_
      refine mw_iconst (v := 1) dX10_nextNewName_21 rfl ?_
      refine mw_cV (rest := []) [.int 1] (c_X10_wrong (d + 2) (m_bk h 1 3 (t_nextV T X) (t_nextL T X)) _ _ hx bk_I bk_J 1) mY_X10_wrong dX10_nextNewName_22 ml_X10_92 (tx_o hx) rfl rfl (Nat.le_of_ble_eq_true rfl) ⟨Nat.le_refl _, Nat.le_refl _⟩ rfl ?_
      refine mw_hp bk_bk ?_
      refine mw_ireturn dX10_nextNewName_25 rfl rfl ⟨rfl, rfl⟩ ?_
      have hq : t_isName (t_nextV T X) = false := by simp [t_isName, c17]
      exact ⟨by rw [t_new, hq]; rfl, by rw [t_newV, hq]; rfl⟩
def t_num (T : m_V) (a b : Int32) : Int32 := if T 0 4 = 2 then (if T 0 6 < a ∨ b < T 0 6 then -1 else T 0 6) else -1
def t_numV (T : m_V) (a b : Int32) : m_V := if T 0 4 = 2 then (if T 0 6 < a ∨ b < T 0 6 then t_wrong T 2 else T) else t_wrong T 1
set_option maxRecDepth 100000 in
set_option maxHeartbeats 4000000 in
theorem c_X10_nextNumber (d : Nat) (h : m_H) (T : m_V) (X : m_L) (hx : isText h.2.2) (hT : blI h 1 3 T) (hX : blJ h 1 3 X) (a b : Int32) (ok : okT T) : MC yX10_nextNumber cX10_nextNumber 3 (some .int) (d + 4) 0 0 [.ref 1, .int a, .int b] h (m_r (.int (t_num (t_nextV T X) a b)) (m_bk h 1 3 (t_numV (t_nextV T X) a b) (t_nextL T X))) := by
  refine mc_of (by decide +kernel) (Nat.le_of_ble_eq_true rfl) ?_
  show MW (yX10_nextNumber.cls, cX10_nextNumber, 3, (some .int), yX10_nextNumber.name, d + 4, 0, 0) 0 (0, 0) [(0, .ref 1), (1, .int a), (2, .int b)] [] h _
  refine mw_hp (bk_self (n := 3) hT hX) ?_
  refine mw_aload_n 0 dX10_nextNumber_0 rfl ?_
  refine mw_cVv (rest := []) [] (c_X10_next d (m_bk h 1 3 T X) _ _ hx bk_I bk_J ok) mY_X10_next dX10_nextNumber_1 ml_X10_101 (tx_o hx) rfl rfl (Nat.le_of_ble_eq_true rfl) ⟨Nat.le_refl _, Nat.le_refl _⟩ rfl ?_
  refine mw_hp bk_bk ?_
  refine mw_aload_n 0 dX10_nextNumber_4 rfl ?_
  refine mw_geti 10 4 dX10_nextNumber_5 fl_X10_25 (by decide) (by decide) rfl (tx_o hx) ?_
  refine mw_top (x' := ((t_nextV T X) 0 4)) (bk_i (j := 0) (by decide)) ?_
  refine mw_iconst (v := 2) dX10_nextNumber_8 rfl ?_
  refine mw_icmp_eq (tgt := 20) dX10_nextNumber_9 (by decide) (fun c9 => ?_) (fun c9 => ?_)
  · refine mw_aload_n 0 dX10_nextNumber_20 rfl ?_
    refine mw_geti 10 6 dX10_nextNumber_21 fl_X10_31 (by decide) (by decide) rfl (tx_o hx) ?_
    refine mw_top (x' := ((t_nextV T X) 0 6)) (bk_i (j := 0) (by decide)) ?_
    refine mw_iload_n 1 dX10_nextNumber_24 rfl ?_
    refine mw_icmp_lt (tgt := 36) dX10_nextNumber_25 (by decide) (fun c25 => ?_) (fun c25 => ?_)
    · refine mw_aload_n 0 dX10_nextNumber_36 rfl ?_
      refine mw_iconst (v := 2) dX10_nextNumber_37 rfl ?_
      refine mw_cV (rest := []) [.int 2] (c_X10_wrong (d + 2) (m_bk h 1 3 (t_nextV T X) (t_nextL T X)) _ _ hx bk_I bk_J 2) mY_X10_wrong dX10_nextNumber_38 ml_X10_92 (tx_o hx) rfl rfl (Nat.le_of_ble_eq_true rfl) ⟨Nat.le_refl _, Nat.le_refl _⟩ rfl ?_
      refine mw_hp bk_bk ?_
      refine mw_pop dX10_nextNumber_41 rfl ?_
      refine mw_iconst (v := -1) dX10_nextNumber_42 rfl ?_
      refine mw_ireturn dX10_nextNumber_43 rfl rfl ⟨rfl, rfl⟩ ?_
      have hq : t_nextV T X 0 6 < a ∨ b < t_nextV T X 0 6 := Or.inl c25
      exact ⟨by rw [t_num, if_pos c9, if_pos hq], by rw [t_numV, if_pos c9, if_pos hq]⟩
    · refine mw_aload_n 0 dX10_nextNumber_28 rfl ?_
      refine mw_geti 10 6 dX10_nextNumber_29 fl_X10_31 (by decide) (by decide) rfl (tx_o hx) ?_
      refine mw_top (x' := ((t_nextV T X) 0 6)) (bk_i (j := 0) (by decide)) ?_
      refine mw_iload_n 2 dX10_nextNumber_32 rfl ?_
      refine mw_icmp_le (tgt := 44) dX10_nextNumber_33 (by decide) (fun c33 => ?_) (fun c33 => ?_)
      · refine mw_aload_n 0 dX10_nextNumber_44 rfl ?_
        refine mw_geti 10 6 dX10_nextNumber_45 fl_X10_31 (by decide) (by decide) rfl (tx_o hx) ?_
        refine mw_top (x' := ((t_nextV T X) 0 6)) (bk_i (j := 0) (by decide)) ?_
        refine mw_ireturn dX10_nextNumber_48 rfl rfl ⟨rfl, rfl⟩ ?_
        have hq : ¬ (t_nextV T X 0 6 < a ∨ b < t_nextV T X 0 6) := fun e => e.elim c25 (fun z => by rw [i32_lt] at z; rw [i32_le] at c33; omega)
        exact ⟨by rw [t_num, if_pos c9, if_neg hq], by rw [t_numV, if_pos c9, if_neg hq]⟩
      · refine mw_aload_n 0 dX10_nextNumber_36 rfl ?_
        refine mw_iconst (v := 2) dX10_nextNumber_37 rfl ?_
        refine mw_cV (rest := []) [.int 2] (c_X10_wrong (d + 2) (m_bk h 1 3 (t_nextV T X) (t_nextL T X)) _ _ hx bk_I bk_J 2) mY_X10_wrong dX10_nextNumber_38 ml_X10_92 (tx_o hx) rfl rfl (Nat.le_of_ble_eq_true rfl) ⟨Nat.le_refl _, Nat.le_refl _⟩ rfl ?_
        refine mw_hp bk_bk ?_
        refine mw_pop dX10_nextNumber_41 rfl ?_
        refine mw_iconst (v := -1) dX10_nextNumber_42 rfl ?_
        refine mw_ireturn dX10_nextNumber_43 rfl rfl ⟨rfl, rfl⟩ ?_
        have hq : t_nextV T X 0 6 < a ∨ b < t_nextV T X 0 6 := Or.inr (by rw [i32_lt]; rw [i32_le] at c33; omega)
        exact ⟨by rw [t_num, if_pos c9, if_pos hq], by rw [t_numV, if_pos c9, if_pos hq]⟩
  · refine mw_aload_n 0 dX10_nextNumber_12 rfl ?_
    refine mw_iconst (v := 1) dX10_nextNumber_13 rfl ?_
    refine mw_cV (rest := []) [.int 1] (c_X10_wrong (d + 2) (m_bk h 1 3 (t_nextV T X) (t_nextL T X)) _ _ hx bk_I bk_J 1) mY_X10_wrong dX10_nextNumber_14 ml_X10_92 (tx_o hx) rfl rfl (Nat.le_of_ble_eq_true rfl) ⟨Nat.le_refl _, Nat.le_refl _⟩ rfl ?_
    refine mw_hp bk_bk ?_
    refine mw_pop dX10_nextNumber_17 rfl ?_
    refine mw_iconst (v := -1) dX10_nextNumber_18 rfl ?_
    refine mw_ireturn dX10_nextNumber_19 rfl rfl ⟨rfl, rfl⟩ ?_
    exact ⟨by rw [t_num, if_neg c9], by rw [t_numV, if_neg c9]⟩
def t_two (T : m_V) (w : Int32) : Int32 := if T 0 4 = 1 ∧ (T 0 8 = w ∨ T 0 8 = w + 1) then T 0 8 - w else -1
def t_twoV (T : m_V) (w : Int32) : m_V := if T 0 4 = 1 ∧ (T 0 8 = w ∨ T 0 8 = w + 1) then T else t_wrong T 1
set_option maxRecDepth 100000 in
set_option maxHeartbeats 4000000 in
theorem c_X10_nextOfTwo (d : Nat) (h : m_H) (T : m_V) (X : m_L) (hx : isText h.2.2) (hT : blI h 1 3 T) (hX : blJ h 1 3 X) (w : Int32) (ok : okT T) : MC yX10_nextOfTwo cX10_nextOfTwo 2 (some .int) (d + 4) 0 0 [.ref 1, .int w] h (m_r (.int (t_two (t_nextV T X) w)) (m_bk h 1 3 (t_twoV (t_nextV T X) w) (t_nextL T X))) := by
  refine mc_of (by decide +kernel) (Nat.le_of_ble_eq_true rfl) ?_
  show MW (yX10_nextOfTwo.cls, cX10_nextOfTwo, 2, (some .int), yX10_nextOfTwo.name, d + 4, 0, 0) 0 (0, 0) [(0, .ref 1), (1, .int w)] [] h _
  refine mw_hp (bk_self (n := 3) hT hX) ?_
  refine mw_aload_n 0 dX10_nextOfTwo_0 rfl ?_
  refine mw_cVv (rest := []) [] (c_X10_next d (m_bk h 1 3 T X) _ _ hx bk_I bk_J ok) mY_X10_next dX10_nextOfTwo_1 ml_X10_101 (tx_o hx) rfl rfl (Nat.le_of_ble_eq_true rfl) ⟨Nat.le_refl _, Nat.le_refl _⟩ rfl ?_
  refine mw_hp bk_bk ?_
  refine mw_aload_n 0 dX10_nextOfTwo_4 rfl ?_
  refine mw_geti 10 4 dX10_nextOfTwo_5 fl_X10_25 (by decide) (by decide) rfl (tx_o hx) ?_
  refine mw_top (x' := ((t_nextV T X) 0 4)) (bk_i (j := 0) (by decide)) ?_
  refine mw_iconst (v := 1) dX10_nextOfTwo_8 rfl ?_
  refine mw_icmp_ne (tgt := 30) dX10_nextOfTwo_9 (by decide) (fun c9 => ?_) (fun c9 => ?_)
  · refine mw_aload_n 0 dX10_nextOfTwo_30 rfl ?_
    refine mw_iconst (v := 1) dX10_nextOfTwo_31 rfl ?_
    refine mw_cV (rest := []) [.int 1] (c_X10_wrong (d + 2) (m_bk h 1 3 (t_nextV T X) (t_nextL T X)) _ _ hx bk_I bk_J 1) mY_X10_wrong dX10_nextOfTwo_32 ml_X10_92 (tx_o hx) rfl rfl (Nat.le_of_ble_eq_true rfl) ⟨Nat.le_refl _, Nat.le_refl _⟩ rfl ?_
    refine mw_hp bk_bk ?_
    refine mw_pop dX10_nextOfTwo_35 rfl ?_
    refine mw_iconst (v := -1) dX10_nextOfTwo_36 rfl ?_
    refine mw_ireturn dX10_nextOfTwo_37 rfl rfl ⟨rfl, rfl⟩ ?_
    have hq : ¬ (t_nextV T X 0 4 = 1 ∧ (t_nextV T X 0 8 = w ∨ t_nextV T X 0 8 = w + 1)) := fun e => c9 e.1
    exact ⟨by rw [t_two, if_neg hq], by rw [t_twoV, if_neg hq]⟩
  · refine mw_aload_n 0 dX10_nextOfTwo_12 rfl ?_
    refine mw_geti 10 8 dX10_nextOfTwo_13 fl_X10_38 (by decide) (by decide) rfl (tx_o hx) ?_
    refine mw_top (x' := ((t_nextV T X) 0 8)) (bk_i (j := 0) (by decide)) ?_
    refine mw_iload_n 1 dX10_nextOfTwo_16 rfl ?_
    refine mw_icmp_eq (tgt := 38) dX10_nextOfTwo_17 (by decide) (fun c17 => ?_) (fun c17 => ?_)
    · refine mw_aload_n 0 dX10_nextOfTwo_38 rfl ?_
      refine mw_geti 10 8 dX10_nextOfTwo_39 fl_X10_38 (by decide) (by decide) rfl (tx_o hx) ?_
      refine mw_top (x' := ((t_nextV T X) 0 8)) (bk_i (j := 0) (by decide)) ?_
      refine mw_iload_n 1 dX10_nextOfTwo_42 rfl ?_
      refine mw_isub dX10_nextOfTwo_43 ?_
      refine mw_ireturn dX10_nextOfTwo_44 rfl rfl ⟨rfl, rfl⟩ ?_
      have hq : t_nextV T X 0 4 = 1 ∧ (t_nextV T X 0 8 = w ∨ t_nextV T X 0 8 = w + 1) := ⟨c9, Or.inl c17⟩
      exact ⟨by rw [t_two, if_pos hq], by rw [t_twoV, if_pos hq]⟩
    · refine mw_aload_n 0 dX10_nextOfTwo_20 rfl ?_
      refine mw_geti 10 8 dX10_nextOfTwo_21 fl_X10_38 (by decide) (by decide) rfl (tx_o hx) ?_
      refine mw_top (x' := ((t_nextV T X) 0 8)) (bk_i (j := 0) (by decide)) ?_
      refine mw_iload_n 1 dX10_nextOfTwo_24 rfl ?_
      refine mw_iconst (v := 1) dX10_nextOfTwo_25 rfl ?_
      refine mw_iadd dX10_nextOfTwo_26 ?_
      refine mw_icmp_eq (tgt := 38) dX10_nextOfTwo_27 (by decide) (fun c27 => ?_) (fun c27 => ?_)
      · refine mw_aload_n 0 dX10_nextOfTwo_38 rfl ?_
        refine mw_geti 10 8 dX10_nextOfTwo_39 fl_X10_38 (by decide) (by decide) rfl (tx_o hx) ?_
        refine mw_top (x' := ((t_nextV T X) 0 8)) (bk_i (j := 0) (by decide)) ?_
        refine mw_iload_n 1 dX10_nextOfTwo_42 rfl ?_
        refine mw_isub dX10_nextOfTwo_43 ?_
        refine mw_ireturn dX10_nextOfTwo_44 rfl rfl ⟨rfl, rfl⟩ ?_
        have hq : t_nextV T X 0 4 = 1 ∧ (t_nextV T X 0 8 = w ∨ t_nextV T X 0 8 = w + 1) := ⟨c9, Or.inr c27⟩
        exact ⟨by rw [t_two, if_pos hq], by rw [t_twoV, if_pos hq]⟩
      · refine mw_aload_n 0 dX10_nextOfTwo_30 rfl ?_
        refine mw_iconst (v := 1) dX10_nextOfTwo_31 rfl ?_
        refine mw_cV (rest := []) [.int 1] (c_X10_wrong (d + 2) (m_bk h 1 3 (t_nextV T X) (t_nextL T X)) _ _ hx bk_I bk_J 1) mY_X10_wrong dX10_nextOfTwo_32 ml_X10_92 (tx_o hx) rfl rfl (Nat.le_of_ble_eq_true rfl) ⟨Nat.le_refl _, Nat.le_refl _⟩ rfl ?_
        refine mw_hp bk_bk ?_
        refine mw_pop dX10_nextOfTwo_35 rfl ?_
        refine mw_iconst (v := -1) dX10_nextOfTwo_36 rfl ?_
        refine mw_ireturn dX10_nextOfTwo_37 rfl rfl ⟨rfl, rfl⟩ ?_
        have hq : ¬ (t_nextV T X 0 4 = 1 ∧ (t_nextV T X 0 8 = w ∨ t_nextV T X 0 8 = w + 1)) := fun e => e.2.elim c17 c27
        exact ⟨by rw [t_two, if_neg hq], by rw [t_twoV, if_neg hq]⟩
