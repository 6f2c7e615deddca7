theorem nI_lit (n : Nat) : (OfNat.ofNat n : Int32) = nI n := rfl
/-- bits of the numbers below n of which P holds -/
def bo (P : Nat → Bool) : Nat → Int32
  | 0 => 0
  | n + 1 => if P n then bo P n ||| (1 <<< (nI n &&& 31)) else bo P n
/-- the first number from i on, among m, of which P holds; -1: none -/
def ff (P : Nat → Bool) : Nat → Nat → Int32
  | _, 0 => -1
  | i, m + 1 => if P i then nI i else ff P (i + 1) m
theorem ff_last (P : Nat → Bool) (i : Nat) : ff P i 0 = -1 := rfl
theorem ff_step {P : Nat → Bool} {i n : Nat} (h : i < n) : ff P i (n - i) = if P i then nI i else ff P (i + 1) (n - (i + 1)) := by
  rw [show n - i = (n - (i + 1)) + 1 by omega, ff]
theorem i32_le {x y : Int32} : x ≤ y ↔ x.toInt ≤ y.toInt := Int32.le_iff_toInt_le
theorem i32_lt {x y : Int32} : x < y ↔ x.toInt < y.toInt := Int32.lt_iff_toInt_lt
def cn (h : m_H) (p k : Nat) : Nat := (h.1 (p + 1) k).toNatClampNeg
/-- the counts of a plan -/
def okN (h : m_H) (p : Nat) : Prop := (h.1 (p + 1) 0 = nI (cn h p 0) ∧ cn h p 0 ≤ 12) ∧ (h.1 (p + 1) 1 = nI (cn h p 1) ∧ cn h p 1 ≤ 6) ∧ (h.1 (p + 1) 2 = nI (cn h p 2) ∧ cn h p 2 ≤ 16) ∧ (h.1 (p + 1) 3 = nI (cn h p 3) ∧ cn h p 3 ≤ 8) ∧ (h.1 (p + 1) 4 = nI (cn h p 4) ∧ cn h p 4 ≤ 10) ∧ (h.1 (p + 1) 6 = nI (cn h p 6) ∧ cn h p 6 ≤ 5)
set_option maxRecDepth 100000 in
set_option maxHeartbeats 4000000 in
theorem c_X5_has (d : Nat) (h : m_H) (p s : Nat) (i : Int32) (hp : isPlan h.2.2 p) (hs : s < 8) : MC yX5_has cX5_has 3 (some .boolean) (d + 1) 0 0 [.ref p, .int (nI s), .int i] h (m_r (.int (if 0 ≤ i ∧ i < h.1 (p + 1) s then 1 else 0)) h) := by
  refine mc_of (by decide +kernel) (Nat.le_of_ble_eq_true rfl) ?_
  show MW (yX5_has.cls, cX5_has, 3, (some .boolean), yX5_has.name, d + 1, 0, 0) 0 (0, 0) [(0, .ref p), (1, .int (nI s)), (2, .int i)] [] h _
  refine mw_iload_n 2 dX5_has_0 rfl ?_
  refine mw_if_lt (tgt := 18) dX5_has_1 (by decide) (fun c1 => ?_) (fun c1 => ?_)
  · refine mw_iconst (v := 0) dX5_has_18 rfl ?_
    refine mw_ireturn dX5_has_19 rfl rfl ⟨rfl, rfl⟩ ?_
    exact ⟨by simp_all [i32_le, i32_lt, Int.not_le] <;> omega, rfl⟩
  · refine mw_iload_n 2 dX5_has_4 rfl ?_
    refine mw_aload_n 0 dX5_has_5 rfl ?_
    refine mw_getr 5 0 dX5_has_6 fl_X5_9 (by decide) (by decide) rfl (pl_o hp) (pl_r0 hp) ?_
    refine mw_iload_n 1 dX5_has_9 rfl ?_
    refine mw_iaN s dX5_has_10 (pl_a0 hp) (by omega) (by decide) rfl ?_
    refine mw_icmp_ge (tgt := 18) dX5_has_11 (by decide) (fun c11 => ?_) (fun c11 => ?_)
    · refine mw_iconst (v := 0) dX5_has_18 rfl ?_
      refine mw_ireturn dX5_has_19 rfl rfl ⟨rfl, rfl⟩ ?_
      exact ⟨by simp_all [i32_le, i32_lt, Int.not_le] <;> omega, rfl⟩
    · refine mw_iconst (v := 1) dX5_has_14 rfl ?_
      refine mw_goto (tgt := 19) dX5_has_15 (by decide) ?_
      refine mw_ireturn dX5_has_19 rfl rfl ⟨rfl, rfl⟩ ?_
      exact ⟨by simp_all [i32_le, i32_lt, Int.not_le] <;> omega, rfl⟩
set_option maxRecDepth 100000 in
set_option maxHeartbeats 4000000 in
theorem c_X5_routesOf (d : Nat) (h : m_H) (p : Nat) (hp : isPlan h.2.2 p) (hN : okN h p) (g : Int32) : MC yX5_routesOf cX5_routesOf 4 (some .int) (d + 1) 0 0 [.ref p, .int g] h (m_r (.int (bo (fun r => decide (h.1 (p + 11) r = g)) (cn h p 4))) h) := by
  obtain ⟨⟨e0, b0⟩, ⟨e1, b1⟩, ⟨e2, b2⟩, ⟨e3, b3⟩, ⟨e4, b4⟩, ⟨e6, b6⟩⟩ := id hN
  refine mc_of (by decide +kernel) (Nat.le_of_ble_eq_true rfl) ?_
  show MW (yX5_routesOf.cls, cX5_routesOf, 4, (some .int), yX5_routesOf.name, d + 1, 0, 0) 0 (0, 0) [(0, .ref p), (1, .int g)] [] h _
  refine mw_iconst (v := 0) dX5_routesOf_0 rfl ?_
  refine mw_istore_n [(2, .int 0), (0, .ref p), (1, .int g)] dX5_routesOf_1 (Nat.le_of_ble_eq_true rfl) rfl ?_
  refine mw_iconst (v := 0) dX5_routesOf_2 rfl ?_
  refine mw_istore_n [(3, .int 0), (2, .int 0), (0, .ref p), (1, .int g)] dX5_routesOf_3 (Nat.le_of_ble_eq_true rfl) rfl ?_
  have L4 : ∀ (m4 : Nat) (i : Nat) (acc : Int32), (i ≤ cn h p 4) → (acc = bo (fun r => decide (h.1 (p + 11) r = g)) i) → cn h p 4 - i < m4 → MW (yX5_routesOf.cls, cX5_routesOf, 4, (some .int), yX5_routesOf.name, d + 1, 0, 0) 4 (0, 0) [(3, .int (nI i)), (2, .int acc), (0, .ref p), (1, .int g)] [] h (m_r (.int (bo (fun r => decide (h.1 (p + 11) r = g)) (cn h p 4))) h) := by
    intro m4
    induction m4 with
    | zero => intro i acc _ _ hm4; exact absurd hm4 (Nat.not_lt_zero _)
    | succ m4 ih4 =>
      intro i acc hi ha hm4
      refine mw_iload_n 0 dX5_routesOf_4 rfl ?_
      refine mw_aload_n 2 dX5_routesOf_5 rfl ?_
      refine mw_getr 5 0 dX5_routesOf_6 fl_X5_9 (by decide) (by decide) rfl (pl_o hp) (pl_r0 hp) ?_
      refine mw_iconst (v := 4) dX5_routesOf_9 rfl ?_
      refine mw_iaN 4 dX5_routesOf_10 (pl_a0 hp) (by decide) (by decide) (by decide) ?_
      refine mw_top (x' := (nI (cn h p 4))) e4 ?_
      refine mw_icmp_ge (tgt := 36) dX5_routesOf_11 (by decide) (fun c => ?_) (fun c => ?_)
      · have c := (nI_leI (by omega) (by omega)).mp c
        refine mw_iload_n 1 dX5_routesOf_36 rfl ?_
        refine mw_ireturn dX5_routesOf_37 rfl rfl ⟨rfl, rfl⟩ ?_
        exact ⟨by rw [ha, show i = cn h p 4 by omega], rfl⟩
      · have c := mt (nI_leI (by omega) (by omega)).mpr c
        refine mw_aload_n 2 dX5_routesOf_14 rfl ?_
        refine mw_getr 5 10 dX5_routesOf_15 fl_X5_43 (by decide) (by decide) rfl (pl_o hp) (pl_r10 hp) ?_
        refine mw_iload_n 0 dX5_routesOf_18 rfl ?_
        refine mw_iaN i dX5_routesOf_19 (pl_a10 hp) (by omega) (by decide) rfl ?_
        refine mw_iload_n 3 dX5_routesOf_20 rfl ?_
        refine mw_icmp_ne (tgt := 30) dX5_routesOf_21 (by decide) (fun c21 => ?_) (fun c21 => ?_)
        · refine mw_iinc 0 (nI (i + 1)) [(3, .int (nI (i + 1))), (2, .int acc), (0, .ref p), (1, .int g)] dX5_routesOf_30 rfl (nI_1 _) (Nat.le_of_ble_eq_true rfl) rfl ?_
          refine mw_goto (tgt := 4) dX5_routesOf_33 (by decide) ?_
          refine ih4 _ _ ?_ ?_ ?_
          · first | omega | (simp_all [bo]; done) | (subst ha; simp only [bo]; simp_all; done)
          · first | omega | (simp_all [bo]; done) | (subst ha; simp only [bo]; simp_all; done)
          · omega
        · refine mw_iload_n 1 dX5_routesOf_24 rfl ?_
          refine mw_iconst (v := 1) dX5_routesOf_25 rfl ?_
          refine mw_iload_n 0 dX5_routesOf_26 rfl ?_
          refine mw_ishl dX5_routesOf_27 ?_
          refine mw_ior dX5_routesOf_28 ?_
          refine mw_istore_n [(2, .int (acc ||| (1 <<< ((nI i) &&& 31)))), (3, .int (nI i)), (0, .ref p), (1, .int g)] dX5_routesOf_29 (Nat.le_of_ble_eq_true rfl) rfl ?_
          refine mw_iinc 1 (nI (i + 1)) [(3, .int (nI (i + 1))), (2, .int (acc ||| (1 <<< ((nI i) &&& 31)))), (0, .ref p), (1, .int g)] dX5_routesOf_30 rfl (nI_1 _) (Nat.le_of_ble_eq_true rfl) rfl ?_
          refine mw_goto (tgt := 4) dX5_routesOf_33 (by decide) ?_
          refine ih4 _ _ ?_ ?_ ?_
          · first | omega | (simp_all [bo]; done) | (subst ha; simp only [bo]; simp_all; done)
          · first | omega | (simp_all [bo]; done) | (subst ha; simp only [bo]; simp_all; done)
          · omega
  refine L4 _ 0 0 ?_ ?_ (Nat.lt_succ_self _)
  · first | omega | rfl | assumption | (simp_all [bo]; done)
  · first | omega | rfl | assumption | (simp_all [bo]; done)
set_option maxRecDepth 100000 in
set_option maxHeartbeats 4000000 in
theorem c_X5_trackBetween (d : Nat) (h : m_H) (p : Nat) (hp : isPlan h.2.2 p) (hN : okN h p) (a b : Int32) : MC yX5_trackBetween cX5_trackBetween 4 (some .int) (d + 1) 0 0 [.ref p, .int a, .int b] h (m_r (.int (ff (fun k => decide (h.1 (p + 5) k = a ∧ h.1 (p + 6) k = b ∨ h.1 (p + 5) k = b ∧ h.1 (p + 6) k = a)) 0 (cn h p 2))) h) := by
  obtain ⟨⟨e0, b0⟩, ⟨e1, b1⟩, ⟨e2, b2⟩, ⟨e3, b3⟩, ⟨e4, b4⟩, ⟨e6, b6⟩⟩ := id hN
  refine mc_of (by decide +kernel) (Nat.le_of_ble_eq_true rfl) ?_
  show MW (yX5_trackBetween.cls, cX5_trackBetween, 4, (some .int), yX5_trackBetween.name, d + 1, 0, 0) 0 (0, 0) [(0, .ref p), (1, .int a), (2, .int b)] [] h _
  refine mw_iconst (v := 0) dX5_trackBetween_0 rfl ?_
  refine mw_istore_n [(3, .int 0), (0, .ref p), (1, .int a), (2, .int b)] dX5_trackBetween_1 (Nat.le_of_ble_eq_true rfl) rfl ?_
  have L2 : ∀ (m2 : Nat) (i : Nat), (i ≤ cn h p 2) → (ff (fun k => decide (h.1 (p + 5) k = a ∧ h.1 (p + 6) k = b ∨ h.1 (p + 5) k = b ∧ h.1 (p + 6) k = a)) 0 (cn h p 2) = ff (fun k => decide (h.1 (p + 5) k = a ∧ h.1 (p + 6) k = b ∨ h.1 (p + 5) k = b ∧ h.1 (p + 6) k = a)) i (cn h p 2 - i)) → cn h p 2 - i < m2 → MW (yX5_trackBetween.cls, cX5_trackBetween, 4, (some .int), yX5_trackBetween.name, d + 1, 0, 0) 2 (0, 0) [(3, .int (nI i)), (0, .ref p), (1, .int a), (2, .int b)] [] h (m_r (.int (ff (fun k => decide (h.1 (p + 5) k = a ∧ h.1 (p + 6) k = b ∨ h.1 (p + 5) k = b ∧ h.1 (p + 6) k = a)) 0 (cn h p 2))) h) := by
    intro m2
    induction m2 with
    | zero => intro i _ _ hm2; exact absurd hm2 (Nat.not_lt_zero _)
    | succ m2 ih2 =>
      intro i hi ha hm2
      refine mw_iload_n 0 dX5_trackBetween_2 rfl ?_
      refine mw_aload_n 1 dX5_trackBetween_3 rfl ?_
      refine mw_getr 5 0 dX5_trackBetween_4 fl_X5_9 (by decide) (by decide) rfl (pl_o hp) (pl_r0 hp) ?_
      refine mw_iconst (v := 2) dX5_trackBetween_7 rfl ?_
      refine mw_iaN 2 dX5_trackBetween_8 (pl_a0 hp) (by decide) (by decide) (by decide) ?_
      refine mw_top (x' := (nI (cn h p 2))) e2 ?_
      refine mw_icmp_ge (tgt := 60) dX5_trackBetween_9 (by decide) (fun c => ?_) (fun c => ?_)
      · have c := (nI_leI (by omega) (by omega)).mp c
        refine mw_iconst (v := -1) dX5_trackBetween_60 rfl ?_
        refine mw_ireturn dX5_trackBetween_61 rfl rfl ⟨rfl, rfl⟩ ?_
        exact ⟨by rw [ha, show cn h p 2 - i = 0 by omega]; rfl, rfl⟩
      · have c := mt (nI_leI (by omega) (by omega)).mpr c
        refine mw_aload_n 1 dX5_trackBetween_12 rfl ?_
        refine mw_getr 5 4 dX5_trackBetween_13 fl_X5_25 (by decide) (by decide) rfl (pl_o hp) (pl_r4 hp) ?_
        refine mw_iload_n 0 dX5_trackBetween_16 rfl ?_
        refine mw_iaN i dX5_trackBetween_17 (pl_a4 hp) (by omega) (by decide) rfl ?_
        refine mw_iload_n 2 dX5_trackBetween_18 rfl ?_
        refine mw_icmp_ne (tgt := 32) dX5_trackBetween_19 (by decide) (fun c19 => ?_) (fun c19 => ?_)
        · refine mw_aload_n 1 dX5_trackBetween_32 rfl ?_
          refine mw_getr 5 4 dX5_trackBetween_33 fl_X5_25 (by decide) (by decide) rfl (pl_o hp) (pl_r4 hp) ?_
          refine mw_iload_n 0 dX5_trackBetween_36 rfl ?_
          refine mw_iaN i dX5_trackBetween_37 (pl_a4 hp) (by omega) (by decide) rfl ?_
          refine mw_iload_n 3 dX5_trackBetween_38 rfl ?_
          refine mw_icmp_ne (tgt := 54) dX5_trackBetween_39 (by decide) (fun c39 => ?_) (fun c39 => ?_)
          · refine mw_iinc 0 (nI (i + 1)) [(3, .int (nI (i + 1))), (0, .ref p), (1, .int a), (2, .int b)] dX5_trackBetween_54 rfl (nI_1 _) (Nat.le_of_ble_eq_true rfl) rfl ?_
            refine mw_goto (tgt := 2) dX5_trackBetween_57 (by decide) ?_
            refine ih2 _ ?_ ?_ ?_
            · first | omega | (rw [ha, ff_step (by omega)]; simp_all; done)
            · first | omega | (rw [ha, ff_step (by omega)]; simp_all; done)
            · omega
          · refine mw_aload_n 1 dX5_trackBetween_42 rfl ?_
            refine mw_getr 5 5 dX5_trackBetween_43 fl_X5_28 (by decide) (by decide) rfl (pl_o hp) (pl_r5 hp) ?_
            refine mw_iload_n 0 dX5_trackBetween_46 rfl ?_
            refine mw_iaN i dX5_trackBetween_47 (pl_a5 hp) (by omega) (by decide) rfl ?_
            refine mw_iload_n 2 dX5_trackBetween_48 rfl ?_
            refine mw_icmp_ne (tgt := 54) dX5_trackBetween_49 (by decide) (fun c49 => ?_) (fun c49 => ?_)
            · refine mw_iinc 0 (nI (i + 1)) [(3, .int (nI (i + 1))), (0, .ref p), (1, .int a), (2, .int b)] dX5_trackBetween_54 rfl (nI_1 _) (Nat.le_of_ble_eq_true rfl) rfl ?_
              refine mw_goto (tgt := 2) dX5_trackBetween_57 (by decide) ?_
              refine ih2 _ ?_ ?_ ?_
              · first | omega | (rw [ha, ff_step (by omega)]; simp_all; done)
              · first | omega | (rw [ha, ff_step (by omega)]; simp_all; done)
              · omega
            · refine mw_iload_n 0 dX5_trackBetween_52 rfl ?_
              refine mw_ireturn dX5_trackBetween_53 rfl rfl ⟨rfl, rfl⟩ ?_
              exact ⟨by rw [ha, ff_step (by omega)]; simp_all, rfl⟩
        · refine mw_aload_n 1 dX5_trackBetween_22 rfl ?_
          refine mw_getr 5 5 dX5_trackBetween_23 fl_X5_28 (by decide) (by decide) rfl (pl_o hp) (pl_r5 hp) ?_
          refine mw_iload_n 0 dX5_trackBetween_26 rfl ?_
          refine mw_iaN i dX5_trackBetween_27 (pl_a5 hp) (by omega) (by decide) rfl ?_
          refine mw_iload_n 3 dX5_trackBetween_28 rfl ?_
          refine mw_icmp_eq (tgt := 52) dX5_trackBetween_29 (by decide) (fun c29 => ?_) (fun c29 => ?_)
          · refine mw_iload_n 0 dX5_trackBetween_52 rfl ?_
            refine mw_ireturn dX5_trackBetween_53 rfl rfl ⟨rfl, rfl⟩ ?_
            exact ⟨by rw [ha, ff_step (by omega)]; simp_all, rfl⟩
          · refine mw_aload_n 1 dX5_trackBetween_32 rfl ?_
            refine mw_getr 5 4 dX5_trackBetween_33 fl_X5_25 (by decide) (by decide) rfl (pl_o hp) (pl_r4 hp) ?_
            refine mw_iload_n 0 dX5_trackBetween_36 rfl ?_
            refine mw_iaN i dX5_trackBetween_37 (pl_a4 hp) (by omega) (by decide) rfl ?_
            refine mw_iload_n 3 dX5_trackBetween_38 rfl ?_
            refine mw_icmp_ne (tgt := 54) dX5_trackBetween_39 (by decide) (fun c39 => ?_) (fun c39 => ?_)
            · refine mw_iinc 0 (nI (i + 1)) [(3, .int (nI (i + 1))), (0, .ref p), (1, .int a), (2, .int b)] dX5_trackBetween_54 rfl (nI_1 _) (Nat.le_of_ble_eq_true rfl) rfl ?_
              refine mw_goto (tgt := 2) dX5_trackBetween_57 (by decide) ?_
              refine ih2 _ ?_ ?_ ?_
              · first | omega | (rw [ha, ff_step (by omega)]; simp_all; done)
              · first | omega | (rw [ha, ff_step (by omega)]; simp_all; done)
              · omega
            · refine mw_aload_n 1 dX5_trackBetween_42 rfl ?_
              refine mw_getr 5 5 dX5_trackBetween_43 fl_X5_28 (by decide) (by decide) rfl (pl_o hp) (pl_r5 hp) ?_
              refine mw_iload_n 0 dX5_trackBetween_46 rfl ?_
              refine mw_iaN i dX5_trackBetween_47 (pl_a5 hp) (by omega) (by decide) rfl ?_
              refine mw_iload_n 2 dX5_trackBetween_48 rfl ?_
              refine mw_icmp_ne (tgt := 54) dX5_trackBetween_49 (by decide) (fun c49 => ?_) (fun c49 => ?_)
              · refine mw_iinc 0 (nI (i + 1)) [(3, .int (nI (i + 1))), (0, .ref p), (1, .int a), (2, .int b)] dX5_trackBetween_54 rfl (nI_1 _) (Nat.le_of_ble_eq_true rfl) rfl ?_
                refine mw_goto (tgt := 2) dX5_trackBetween_57 (by decide) ?_
                refine ih2 _ ?_ ?_ ?_
                · first | omega | (rw [ha, ff_step (by omega)]; simp_all; done)
                · first | omega | (rw [ha, ff_step (by omega)]; simp_all; done)
                · omega
              · refine mw_iload_n 0 dX5_trackBetween_52 rfl ?_
                refine mw_ireturn dX5_trackBetween_53 rfl rfl ⟨rfl, rfl⟩ ?_
                exact ⟨by rw [ha, ff_step (by omega)]; simp_all, rfl⟩
  refine L2 _ 0 ?_ ?_ (Nat.lt_succ_self _)
  · first | omega | rfl | assumption | (simp_all [bo]; done)
  · first | omega | rfl | assumption | (simp_all [bo]; done)
