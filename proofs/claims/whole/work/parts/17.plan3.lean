def p_empty (P : m_V) : m_V := u2 (u1 P 1 (fun k => if k < 8 then 0 else P 1 k)) 1 7 3
set_option maxRecDepth 100000 in
set_option maxHeartbeats 4000000 in
theorem c_X5_empty (d : Nat) (h : m_H) (p : Nat) (P : m_V) (N : m_L) (hp : isPlan h.2.2 p) (hP : blI h p 21 P) (hL : blJ h p 21 N) : MC yX5_empty cX5_empty 1 none (d + 2) 0 0 [.ref p] h (m_rn (m_bk h p 21 (p_empty P) N)) := by
  refine mc_of (by decide +kernel) (Nat.le_of_ble_eq_true rfl) ?_
  show MW (yX5_empty.cls, cX5_empty, 1, none, yX5_empty.name, d + 2, 0, 0) 0 (0, 0) [(0, .ref p)] [] h _
  refine mw_hp (bk_self (n := 21) hP hL) ?_
  refine mw_aload_n 0 dX5_empty_0 rfl ?_
  refine mw_getr 5 0 dX5_empty_1 fl_X5_9 (by decide) (by decide) rfl (pl_o hp) (pl_r0 hp) ?_
  refine mw_iconst (v := 0) dX5_empty_4 rfl ?_
  refine mw_cSv (rest := []) [.ref (p + 1), .int 0] (c_J7_fill_53178 d (m_bk h p 21 P N) (p + 1) 8 0 (pl_a0 hp) (by decide)) mY_J7_fill_53178 dX5_empty_5 ml_X5_73 rfl rfl (Nat.le_of_ble_eq_true rfl) ⟨Nat.le_refl _, Nat.le_refl _⟩ rfl ?_
  refine mw_hp (bk_fill (by decide)) ?_
  refine mw_aload_n 0 dX5_empty_8 rfl ?_
  refine mw_getr 5 0 dX5_empty_9 fl_X5_9 (by decide) (by decide) rfl (pl_o hp) (pl_r0 hp) ?_
  refine mw_bipush (v := 7) dX5_empty_12 (by decide) ?_
  refine mw_iconst (v := 3) dX5_empty_14 rfl ?_
  refine mw_isN 7 dX5_empty_15 (pl_a0 hp) (by decide) (by decide) (by decide) ?_
  refine mw_hp (bk_si (j := 1) (by decide)) ?_
  refine mw_return dX5_empty_16 rfl ⟨rfl, rfl⟩ ?_
  exact ⟨rfl, rfl⟩
def p_clash (P : m_V) (i : Nat) : m_V := fun j k => if j = 18 ∧ k < i then bo (fun q => decide (q ≠ k) && p_conflict P k q) (ct P 4) else P j k
theorem clash_step {P : m_V} {i : Nat} : u2 (p_clash P i) 18 i (bo (fun q => decide (q ≠ i) && p_conflict P i q) (ct P 4)) = p_clash P (i + 1) := by
  funext j k
  simp only [u2, p_clash]
  by_cases e : k = i
  · subst e
    by_cases e2 : j = 18 <;> simp [e2]
  · have : (k < i + 1) = (k < i) := by simp only [eq_iff_iff]; omega
    simp [e, this]
theorem clash_0 {P : m_V} : p_clash P 0 = P := by
  funext j k
  simp [p_clash]
set_option maxRecDepth 100000 in
set_option maxHeartbeats 4000000 in
theorem c_X5_workOutClashes (d : Nat) (h : m_H) (p : Nat) (P : m_V) (N : m_L) (hp : isPlan h.2.2 p) (hP : blI h p 21 P) (hL : blJ h p 21 N) (hN : okP P) : MC yX5_workOutClashes cX5_workOutClashes 3 none (d + 2) 0 0 [.ref p] h (m_rn (m_bk h p 21 (p_clash P (ct P 4)) N)) := by
  obtain ⟨e4, g4⟩ := hN.2.2.2.2.1
  refine mc_of (by decide +kernel) (Nat.le_of_ble_eq_true rfl) ?_
  show MW (yX5_workOutClashes.cls, cX5_workOutClashes, 3, none, yX5_workOutClashes.name, d + 2, 0, 0) 0 (0, 0) [(0, .ref p)] [] h _
  refine mw_hp (bk_self (n := 21) hP hL) ?_
  refine mw_iconst (v := 0) dX5_workOutClashes_0 rfl ?_
  refine mw_istore_n [(1, .int 0), (0, .ref p)] dX5_workOutClashes_1 (Nat.le_of_ble_eq_true rfl) rfl ?_
  refine mw_hp (h' := m_bk h p 21 (p_clash P 0) N) (by rw [clash_0]) ?_
  have L2 : ∀ (m2 : Nat) (i : Nat), (i ≤ ct P 4) → ct P 4 - i < m2 → MW (yX5_workOutClashes.cls, cX5_workOutClashes, 3, none, yX5_workOutClashes.name, d + 2, 0, 0) 2 (0, 0) [(1, .int (nI i)), (0, .ref p)] [] (m_bk h p 21 (p_clash P i) N) (m_rn (m_bk h p 21 (p_clash P (ct P 4)) N)) := by
    intro m2
    induction m2 with
    | zero => intro i _ hm2; exact absurd hm2 (Nat.not_lt_zero _)
    | succ m2 ih2 =>
      intro i hi hm2
      refine mw_iload_n 0 dX5_workOutClashes_2 rfl ?_
      refine mw_aload_n 1 dX5_workOutClashes_3 rfl ?_
      refine mw_getr 5 0 dX5_workOutClashes_4 fl_X5_9 (by decide) (by decide) rfl (pl_o hp) (pl_r0 hp) ?_
      refine mw_iconst (v := 4) dX5_workOutClashes_7 rfl ?_
      refine mw_iaN 4 dX5_workOutClashes_8 (pl_a0 hp) (by decide) (by decide) (by decide) ?_
      refine mw_top (x' := (nI (ct P 4))) ((bk_i (j := 1) (by decide)).trans e4) ?_
      refine mw_icmp_ge (tgt := 69) dX5_workOutClashes_9 (by decide) (fun c => ?_) (fun c => ?_)
      · have c := (nI_leI (by omega) (by omega)).mp c
        refine mw_return dX5_workOutClashes_69 rfl ⟨rfl, rfl⟩ ?_
        exact ⟨rfl, by rw [show i = ct P 4 by omega]⟩
      · have c := mt (nI_leI (by omega) (by omega)).mpr c
        refine mw_aload_n 1 dX5_workOutClashes_12 rfl ?_
        refine mw_getr 5 17 dX5_workOutClashes_13 fl_X5_64 (by decide) (by decide) rfl (pl_o hp) (pl_r17 hp) ?_
        refine mw_iload_n 0 dX5_workOutClashes_16 rfl ?_
        refine mw_iconst (v := 0) dX5_workOutClashes_17 rfl ?_
        refine mw_isN i dX5_workOutClashes_18 (pl_a17 hp) (by omega) (by decide) rfl ?_
        refine mw_hp (bk_si (j := 18) (by decide)) ?_
        refine mw_iconst (v := 0) dX5_workOutClashes_19 rfl ?_
        refine mw_istore_n [(2, .int 0), (1, .int (nI i)), (0, .ref p)] dX5_workOutClashes_20 (Nat.le_of_ble_eq_true rfl) rfl ?_
        have L21 : ∀ (m21 : Nat) (q : Nat) (acc : Int32), (q ≤ ct P 4) → (acc = bo (fun q => decide (q ≠ i) && p_conflict P i q) q) → ct P 4 - q < m21 → MW (yX5_workOutClashes.cls, cX5_workOutClashes, 3, none, yX5_workOutClashes.name, d + 2, 0, 0) 21 (0, 0) [(2, .int (nI q)), (1, .int (nI i)), (0, .ref p)] [] (m_bk h p 21 (u2 (p_clash P i) 18 i acc) N) (m_rn (m_bk h p 21 (p_clash P (ct P 4)) N)) := by
          intro m21
          induction m21 with
          | zero => intro q acc _ _ hm21; exact absurd hm21 (Nat.not_lt_zero _)
          | succ m21 ih21 =>
            intro q acc hq ha hm21
            refine mw_iload_n 0 dX5_workOutClashes_21 rfl ?_
            refine mw_aload_n 2 dX5_workOutClashes_22 rfl ?_
            refine mw_getr 5 0 dX5_workOutClashes_23 fl_X5_9 (by decide) (by decide) rfl (pl_o hp) (pl_r0 hp) ?_
            refine mw_iconst (v := 4) dX5_workOutClashes_26 rfl ?_
            refine mw_iaN 4 dX5_workOutClashes_27 (pl_a0 hp) (by decide) (by decide) (by decide) ?_
            refine mw_top (x' := (nI (ct P 4))) ((bk_i (j := 1) (by decide)).trans e4) ?_
            refine mw_icmp_ge (tgt := 63) dX5_workOutClashes_28 (by decide) (fun c2 => ?_) (fun c2 => ?_)
            · have c2 := (nI_leI (by omega) (by omega)).mp c2
              refine mw_iinc 1 (nI (i + 1)) [(1, .int (nI (i + 1))), (2, .int (nI q)), (0, .ref p)] dX5_workOutClashes_63 rfl (nI_1 _) (Nat.le_of_ble_eq_true rfl) rfl ?_
              refine mw_goto (tgt := 2) dX5_workOutClashes_66 (by decide) ?_
              refine mw_hp (by rw [ha, show q = ct P 4 by omega, clash_step]) ?_
              refine mw_sub [0, 2] rfl ?_
              refine ih2 _ ?_ ?_
              · first | omega | rfl | assumption | (simp_all [bo]; done)
              · omega
            · have c2 := mt (nI_leI (by omega) (by omega)).mpr c2
              refine mw_iload_n 0 dX5_workOutClashes_31 rfl ?_
              refine mw_iload_n 1 dX5_workOutClashes_32 rfl ?_
              refine mw_icmp_eq (tgt := 57) dX5_workOutClashes_33 (by decide) (fun c33 => ?_) (fun c33 => ?_)
              · have c33 : q = i := (nI_eq (by omega) (by omega)).mp c33
                refine mw_iinc 0 (nI (q + 1)) [(2, .int (nI (q + 1))), (1, .int (nI i)), (0, .ref p)] dX5_workOutClashes_57 rfl (nI_1 _) (Nat.le_of_ble_eq_true rfl) rfl ?_
                refine mw_goto (tgt := 21) dX5_workOutClashes_60 (by decide) ?_
                refine ih21 _ _ ?_ ?_ ?_
                · first | omega | rfl | assumption | (simp_all [bo]; done)
                · first | (rw [bo, ← ha]; simp [c33, c42, u2]; done) | (rw [bo, ← ha]; simp [c33]; done) | (rw [bo, ← ha]; simp [c42]; done)
                · omega
              · have c33 : ¬ q = i := mt (fun e => by rw [e]) c33
                refine mw_aload_n 2 dX5_workOutClashes_36 rfl ?_
                refine mw_iload_n 1 dX5_workOutClashes_37 rfl ?_
                refine mw_iload_n 0 dX5_workOutClashes_38 rfl ?_
                refine mw_cV (rest := []) [.int (nI i), .int (nI q)] (c_X5_conflict d (m_bk h p 21 (u2 (p_clash P i) 18 i acc) N) p _ hp bk_I hN i q (by omega) (by omega)) mY_X5_conflict dX5_workOutClashes_39 ml_X5_97 (pl_o hp) rfl rfl (Nat.le_of_ble_eq_true rfl) ⟨Nat.le_refl _, Nat.le_refl _⟩ rfl ?_
                refine mw_top (x' := (b2 (p_conflict P i q))) rfl ?_
                refine mw_if_eq (tgt := 57) dX5_workOutClashes_42 (by decide) (fun c42 => ?_) (fun c42 => ?_)
                · have c42 : p_conflict P i q = false := by revert c42; cases p_conflict P i q <;> simp [b2]
                  refine mw_iinc 0 (nI (q + 1)) [(2, .int (nI (q + 1))), (1, .int (nI i)), (0, .ref p)] dX5_workOutClashes_57 rfl (nI_1 _) (Nat.le_of_ble_eq_true rfl) rfl ?_
                  refine mw_goto (tgt := 21) dX5_workOutClashes_60 (by decide) ?_
                  refine ih21 _ _ ?_ ?_ ?_
                  · first | omega | rfl | assumption | (simp_all [bo]; done)
                  · first | (rw [bo, ← ha]; simp [c33, c42, u2]; done) | (rw [bo, ← ha]; simp [c33]; done) | (rw [bo, ← ha]; simp [c42]; done)
                  · omega
                · have c42 : p_conflict P i q = true := by revert c42; cases p_conflict P i q <;> simp [b2]
                  refine mw_aload_n 2 dX5_workOutClashes_45 rfl ?_
                  refine mw_getr 5 17 dX5_workOutClashes_46 fl_X5_64 (by decide) (by decide) rfl (pl_o hp) (pl_r17 hp) ?_
                  refine mw_iload_n 1 dX5_workOutClashes_49 rfl ?_
                  refine mw_dup2 dX5_workOutClashes_50 rfl rfl ?_
                  refine mw_iaN i dX5_workOutClashes_51 (pl_a17 hp) (by omega) (by decide) rfl ?_
                  refine mw_top (x' := ((u2 (p_clash P i) 18 i acc) 18 i)) (bk_i (j := 18) (by decide)) ?_
                  refine mw_iconst (v := 1) dX5_workOutClashes_52 rfl ?_
                  refine mw_iload_n 0 dX5_workOutClashes_53 rfl ?_
                  refine mw_ishl dX5_workOutClashes_54 ?_
                  refine mw_ior dX5_workOutClashes_55 ?_
                  refine mw_isN i dX5_workOutClashes_56 (pl_a17 hp) (by omega) (by decide) rfl ?_
                  refine mw_hp (bk_si (j := 18) (by decide)) ?_
                  refine mw_iinc 0 (nI (q + 1)) [(2, .int (nI (q + 1))), (1, .int (nI i)), (0, .ref p)] dX5_workOutClashes_57 rfl (nI_1 _) (Nat.le_of_ble_eq_true rfl) rfl ?_
                  refine mw_goto (tgt := 21) dX5_workOutClashes_60 (by decide) ?_
                  refine mw_hp (by rw [u2_u2]) ?_
                  refine ih21 _ _ ?_ ?_ ?_
                  · first | omega | rfl | assumption | (simp_all [bo]; done)
                  · first | (rw [bo, ← ha]; simp [c33, c42, u2]; done) | (rw [bo, ← ha]; simp [c33]; done) | (rw [bo, ← ha]; simp [c42]; done)
                  · omega
        refine L21 _ 0 0 ?_ ?_ (Nat.lt_succ_self _)
        · first | omega | rfl | assumption | (simp_all [bo]; done)
        · rfl
  refine L2 _ 0 ?_ (Nat.lt_succ_self _)
  · first | omega | rfl | assumption | (simp_all [bo]; done)
