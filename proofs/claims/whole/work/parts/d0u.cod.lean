/-! Text.codesOfWords -/
def cw : Nat → Int64 × Nat
  | 0 => (0, 0)
  | i + 1 => if sC 0 i = 32 then (0, (cw i).2 + 1) else ((cw i).1 * 32 + (sC 0 i - 97 + 1).toInt64, (cw i).2)
def cwH (h : m_H) : Nat → m_H
  | 0 => m_nw h 101 32
  | i + 1 => if sC 0 i = 32 then m_sj (cwH h i) h.2.2.2.2 (cw i).2 (cw i).1 else cwH h i
theorem cw_lt : ∀ i, i < 179 → (cw i).2 < 32 := by decide +kernel
theorem cwH_a (h : m_H) : ∀ i, m_Ar (cwH h i) h.2.2.2.2 1 32 := by
  intro i
  induction i with
  | zero => exact ⟨Nat.lt_succ_self _, by simp [cwH, m_nw]⟩
  | succ i ih =>
    unfold cwH
    by_cases c : sC 0 i = 32
    · rw [if_pos c]; exact ih
    · rw [if_neg c]; exact ih
set_option maxRecDepth 100000 in
set_option maxHeartbeats 4000000 in
theorem cw_lp (d : Nat) (h : m_H) : ∀ (r i : Nat), i + r = 179 → MW (yX10_codesOfWords.cls, cX10_codesOfWords, 6, (some (.array .long)), yX10_codesOfWords.name, d + 5, 1, 32) 12 (1, 32) [(0, .ref h.2.2.2.2), (1, .long (cw i).1), (3, .int (nI (cw i).2)), (4, .int (nI i))] [] (cwH h i) (m_r (.ref h.2.2.2.2) (cwH h 179)) := by
  intro r
  induction r with
  | zero =>
    intro i hi
    obtain rfl : i = 179 := by omega
    refine mw_iload 3 dX10_codesOfWords_12 rfl ?_
    refine mw_ldcS (k := 1000000 + 0) dX10_codesOfWords_14 (.head _) (by decide) ?_
    refine mw_cStr (rest := [.int (nI 179)]) [] (i := 0) (by decide) (c_J0_length (d + 2) _ (by decide)) mY_J0_length dX10_codesOfWords_16 ml_X10_57 rfl rfl (Nat.le_of_ble_eq_true rfl) ⟨Nat.le_refl _, Nat.le_refl _⟩ rfl ?_
    refine mw_icmp_ge (tgt := 77) dX10_codesOfWords_19 (by decide) (fun _ => ?_) (fun q => absurd (by decide) q)
    refine mw_aload_n 0 dX10_codesOfWords_77 rfl ?_
    exact mw_areturn dX10_codesOfWords_78 rfl (Or.inr ⟨_, rfl⟩) ⟨rfl, rfl⟩ ⟨rfl, rfl⟩
  | succ r ih =>
    intro i hi
    have i1 : i < 179 := by omega
    have fl := cw_lt i i1
    refine mw_iload 3 dX10_codesOfWords_12 rfl ?_
    refine mw_ldcS (k := 1000000 + 0) dX10_codesOfWords_14 (.head _) (by decide) ?_
    refine mw_cStr (rest := [.int (nI i)]) [] (i := 0) (by decide) (c_J0_length (d + 2) _ (by decide)) mY_J0_length dX10_codesOfWords_16 ml_X10_57 rfl rfl (Nat.le_of_ble_eq_true rfl) ⟨Nat.le_refl _, Nat.le_refl _⟩ rfl ?_
    refine mw_icmp_ge (tgt := 77) dX10_codesOfWords_19 (by decide) (fun q => absurd ((nI_leI (a := 179) (by decide) (by omega)).mp q) (by omega)) (fun _ => ?_)
    refine mw_iload_n 2 dX10_codesOfWords_22 rfl ?_
    refine mw_bipush (v := 32) dX10_codesOfWords_23 (by decide) ?_
    refine mw_icmp_ge (tgt := 77) dX10_codesOfWords_25 (by decide) (fun q => absurd ((nI_leI (a := 32) (by decide) (by omega)).mp q) (by omega)) (fun _ => ?_)
    refine mw_ldcS (k := 1000000 + 0) dX10_codesOfWords_28 (.head _) (by decide) ?_
    refine mw_iload 3 dX10_codesOfWords_30 rfl ?_
    refine mw_cStr (rest := []) [.int (nI i)] (i := 0) (by decide) (c_J0_charAt d _ (by decide) (show i < m_len.getD 0 0 from i1)) mY_J0_charAt dX10_codesOfWords_32 ml_X10_63 rfl rfl (Nat.le_of_ble_eq_true rfl) ⟨Nat.le_refl _, Nat.le_refl _⟩ rfl ?_
    refine mw_istore [(5, .int (sC 0 i)), (0, .ref h.2.2.2.2), (1, .long (cw i).1), (3, .int (nI (cw i).2)), (4, .int (nI i))] dX10_codesOfWords_35 (Nat.le_of_ble_eq_true rfl) rfl ?_
    refine mw_iload 0 dX10_codesOfWords_37 rfl ?_
    refine mw_bipush (v := 32) dX10_codesOfWords_39 (by decide) ?_
    refine mw_icmp_ne (tgt := 56) dX10_codesOfWords_41 (by decide) (fun c => ?_) (fun c => ?_)
    · have e1 : cw (i + 1) = ((cw i).1 * 32 + (sC 0 i - 97 + 1).toInt64, (cw i).2) := if_neg c
      have e2 : cwH h (i + 1) = cwH h i := if_neg c
      have k := ih (i + 1) (by omega)
      rw [e1, e2] at k
      refine mw_lload_n 2 dX10_codesOfWords_56 rfl ?_
      refine mw_ldc2 dX10_codesOfWords_57 cl_X10_67 ?_
      refine mw_lmul dX10_codesOfWords_60 ?_
      refine mw_iload 0 dX10_codesOfWords_61 rfl ?_
      refine mw_bipush (v := 97) dX10_codesOfWords_63 (by decide) ?_
      refine mw_isub dX10_codesOfWords_65 ?_
      refine mw_iconst (v := 1) dX10_codesOfWords_66 rfl ?_
      refine mw_iadd dX10_codesOfWords_67 ?_
      refine mw_i2l dX10_codesOfWords_68 ?_
      refine mw_ladd dX10_codesOfWords_69 ?_
      refine mw_lstore_n [(1, .long ((cw i).1 * 32 + (sC 0 i - 97 + 1).toInt64)), (5, .int (sC 0 i)), (0, .ref h.2.2.2.2), (3, .int (nI (cw i).2)), (4, .int (nI i))] dX10_codesOfWords_70 (Nat.le_of_ble_eq_true rfl) rfl ?_
      refine mw_iinc 4 (nI (i + 1)) [(4, .int (nI (i + 1))), (1, .long ((cw i).1 * 32 + (sC 0 i - 97 + 1).toInt64)), (5, .int (sC 0 i)), (0, .ref h.2.2.2.2), (3, .int (nI (cw i).2))] dX10_codesOfWords_71 rfl (nI_1 ..) (Nat.le_of_ble_eq_true rfl) rfl ?_
      refine mw_goto (tgt := 12) dX10_codesOfWords_74 (by decide) ?_
      refine mw_sub [3, 1, 4, 0] rfl ?_
      exact k
    · have e1 : cw (i + 1) = (0, (cw i).2 + 1) := if_pos c
      have e2 : cwH h (i + 1) = m_sj (cwH h i) h.2.2.2.2 (cw i).2 (cw i).1 := if_pos c
      have k := ih (i + 1) (by omega)
      rw [e1, e2] at k
      refine mw_aload_n 1 dX10_codesOfWords_44 rfl ?_
      refine mw_iload_n 3 dX10_codesOfWords_45 rfl ?_
      refine mw_lload_n 2 dX10_codesOfWords_46 rfl ?_
      refine mw_last dX10_codesOfWords_47 (cwH_a h i) (sx_in fl (by decide)) ?_
      rw [nI_clamp (by omega)]
      refine mw_iinc 3 (nI ((cw i).2 + 1)) [(3, .int (nI ((cw i).2 + 1))), (5, .int (sC 0 i)), (0, .ref h.2.2.2.2), (1, .long (cw i).1), (4, .int (nI i))] dX10_codesOfWords_48 rfl (nI_1 ..) (Nat.le_of_ble_eq_true rfl) rfl ?_
      refine mw_lconst (v := 0) dX10_codesOfWords_51 rfl ?_
      refine mw_lstore_n [(1, .long 0), (3, .int (nI ((cw i).2 + 1))), (5, .int (sC 0 i)), (0, .ref h.2.2.2.2), (4, .int (nI i))] dX10_codesOfWords_52 (Nat.le_of_ble_eq_true rfl) rfl ?_
      refine mw_goto (tgt := 71) dX10_codesOfWords_53 (by decide) ?_
      refine mw_iinc 4 (nI (i + 1)) [(4, .int (nI (i + 1))), (1, .long 0), (3, .int (nI ((cw i).2 + 1))), (5, .int (sC 0 i)), (0, .ref h.2.2.2.2)] dX10_codesOfWords_71 rfl (nI_1 ..) (Nat.le_of_ble_eq_true rfl) rfl ?_
      refine mw_goto (tgt := 12) dX10_codesOfWords_74 (by decide) ?_
      refine mw_sub [4, 1, 2, 0] rfl ?_
      exact k
set_option maxRecDepth 100000 in
set_option maxHeartbeats 4000000 in
theorem c_X10_codesOfWords (d : Nat) (h : m_H) (hm : h.2.2.2.2 < 1000000) : MC yX10_codesOfWords cX10_codesOfWords 6 (some (.array .long)) (d + 5) 1 32 [] h (m_r (.ref h.2.2.2.2) (cwH h 179)) := by
  refine mc_of (by decide +kernel) (Nat.le_of_ble_eq_true rfl) ?_
  show MW (yX10_codesOfWords.cls, cX10_codesOfWords, 6, (some (.array .long)), yX10_codesOfWords.name, d + 5, 1, 32) 0 (0, 0) [] [] h _
  refine mw_bipush (v := 32) dX10_codesOfWords_0 (by decide) ?_
  refine m_newa (t := 1) (N := 32) rfl dX10_codesOfWords_2 al_long (fun G => rfl) (by decide) (by decide) (by decide) ⟨Nat.le_refl _, Nat.le_refl _⟩ hm rfl ?_
  refine mw_astore_n [(0, .ref h.2.2.2.2)] dX10_codesOfWords_4 (Nat.le_of_ble_eq_true rfl) rfl ?_
  refine mw_lconst (v := 0) dX10_codesOfWords_5 rfl ?_
  refine mw_lstore_n [(1, .long 0), (0, .ref h.2.2.2.2)] dX10_codesOfWords_6 (Nat.le_of_ble_eq_true rfl) rfl ?_
  refine mw_iconst (v := 0) dX10_codesOfWords_7 rfl ?_
  refine mw_istore_n [(3, .int 0), (1, .long 0), (0, .ref h.2.2.2.2)] dX10_codesOfWords_8 (Nat.le_of_ble_eq_true rfl) rfl ?_
  refine mw_iconst (v := 0) dX10_codesOfWords_9 rfl ?_
  refine mw_istore [(4, .int 0), (3, .int 0), (1, .long 0), (0, .ref h.2.2.2.2)] dX10_codesOfWords_10 (Nat.le_of_ble_eq_true rfl) rfl ?_
  refine mw_sub [3, 2, 1, 0] rfl ?_
  exact cw_lp d h 179 0 rfl
def cwA : Nat → Nat → Int64
  | 0 => fun _ => 0
  | i + 1 => if sC 0 i = 32 then (fun j => if j = (cw i).2 then (cw i).1 else cwA i j) else cwA i
theorem cwH_A (h : m_H) : ∀ i j, (cwH h i).2.1 h.2.2.2.2 j = cwA i j := by
  intro i
  induction i with
  | zero => intro j; simp [cwH, cwA, m_nw]
  | succ i ih =>
    intro j
    unfold cwH cwA
    by_cases c : sC 0 i = 32
    · rw [if_pos c, if_pos c]
      show (if _ then _ else _) = _
      by_cases e : j = (cw i).2
      · rw [if_pos ⟨rfl, e⟩, if_pos e]
      · rw [if_neg (fun z => e z.2), if_neg e]; exact ih j
    · rw [if_neg c, if_neg c]; exact ih j
theorem cwA_k : ∀ j, j < 32 → cwA 179 j = c5 (kwds.getD j []) := by decide +kernel
theorem cwH_fr (h : m_H) : ∀ i, (cwH h i).1 = (m_nw h 101 32).1 ∧ (cwH h i).2.2 = (m_nw h 101 32).2.2 ∧ ∀ b, ¬ b = h.2.2.2.2 → (cwH h i).2.1 b = (m_nw h 101 32).2.1 b := by
  intro i
  induction i with
  | zero => exact ⟨rfl, rfl, fun _ _ => rfl⟩
  | succ i ih =>
    unfold cwH
    by_cases c : sC 0 i = 32
    · rw [if_pos c]
      refine ⟨ih.1, ih.2.1, fun b hb => ?_⟩
      funext j
      show (if _ then _ else _) = _
      rw [if_neg (fun z => hb z.1)]
      exact congrFun (ih.2.2 b hb) j
    · rw [if_neg c]; exact ih
