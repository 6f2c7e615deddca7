theorem u2_same {V : m_V} {j k : Nat} {x : Int32} : u2 V j k x j k = x := by simp [u2]
def s_ent1 (P V : m_V) (t : Nat) (c : Int32) : m_V := if (if c = -1 then -1 else s_leastTrainIn P V c (nI t)) = -1 then u2 (u2 V 4 t c) 5 t 0 else s_crashV P (u2 (u2 V 4 t c) 5 t 0) t c
def s_enterV (P V : m_V) (t : Nat) (c : Int32) : m_V := lo (fun r (W : m_V) => if W 1 r = 2 ∧ W 3 r = nI t ∧ (c = -1 ∨ (P 14 r >>> (c &&& 31)) &&& 1 = 0) then u2 W 1 r 0 else W) (ct P 4) (s_ent1 P V t c)
set_option maxRecDepth 100000 in
set_option maxHeartbeats 4000000 in
theorem c_X8_enter (d : Nat) (h : m_H) (s : Nat) (V P : m_V) (SL : m_L) (hs : isState h.2.2 s) (hp : isPlan h.2.2 4) (hV : blI h s 7 V) (hP : blI h 4 21 P) (hN : okP P) (hSL : blJ h s 7 SL) (hd : 4 + 21 ≤ s) (t : Nat) (c : Int32) (ht : t < 5) : MC yX8_enter cX8_enter 5 none (d + 2) 0 0 [.ref s, .int (nI t), .int c] h (m_rn (m_bk h s 7 (s_enterV P V t c) SL)) := by
  obtain ⟨e4, g4⟩ := hN.2.2.2.2.1
  refine mc_of (by decide +kernel) (Nat.le_of_ble_eq_true rfl) ?_
  show MW (yX8_enter.cls, cX8_enter, 5, none, yX8_enter.name, d + 2, 0, 0) 0 (0, 0) [(0, .ref s), (1, .int (nI t)), (2, .int c)] [] h _
  refine mw_hp (bk_self (n := 7) hV hSL) ?_
  have J41 : ∀ (W : m_V), (W = s_ent1 P V t c) → MW (yX8_enter.cls, cX8_enter, 5, none, yX8_enter.name, d + 2, 0, 0) 41 (0, 0) [(0, .ref s), (1, .int (nI t)), (2, .int c)] [] (m_bk h s 7 W SL) (m_rn (m_bk h s 7 (s_enterV P V t c) SL)) := by
    intro W hw
    refine mw_iconst (v := 0) dX8_enter_41 rfl ?_
    refine mw_istore [(4, .int 0), (0, .ref s), (1, .int (nI t)), (2, .int c)] dX8_enter_42 (Nat.le_of_ble_eq_true rfl) rfl ?_
    have L44 : ∀ (m44 : Nat) (i : Nat) (U : m_V), (i ≤ ct P 4) → (U = lo (fun r (W : m_V) => if W 1 r = 2 ∧ W 3 r = nI t ∧ (c = -1 ∨ (P 14 r >>> (c &&& 31)) &&& 1 = 0) then u2 W 1 r 0 else W) i W) → ct P 4 - i < m44 → MW (yX8_enter.cls, cX8_enter, 5, none, yX8_enter.name, d + 2, 0, 0) 44 (0, 0) [(4, .int (nI i)), (0, .ref s), (1, .int (nI t)), (2, .int c)] [] (m_bk h s 7 U SL) (m_rn (m_bk h s 7 (s_enterV P V t c) SL)) := by
      intro m44
      induction m44 with
      | zero => intro i U _ _ hm44; exact absurd hm44 (Nat.not_lt_zero _)
      | succ m44 ih44 =>
        intro i U hi hu hm44
        refine mw_iload 0 dX8_enter_44 rfl ?_
        refine mw_aload_n 1 dX8_enter_46 rfl ?_
        refine mw_getr 8 0 dX8_enter_47 fl_X8_52 (by decide) (by decide) rfl (sa_o hs) (sa_r0 hs) ?_
        refine mw_getr 5 0 dX8_enter_50 fl_X8_71 (by decide) (by decide) rfl (pl_o hp) (pl_r0 hp) ?_
        refine mw_iconst (v := 4) dX8_enter_53 rfl ?_
        refine mw_iaN 4 dX8_enter_54 (pl_a0 hp) (by decide) (by decide) (by decide) ?_
        refine mw_top (x' := (nI (ct P 4))) ((bk_o (j := 1) hP (Or.inl hd) (by decide)).trans e4) ?_
        refine mw_icmp_ge (tgt := 116) dX8_enter_55 (by decide) (fun cc => ?_) (fun cc => ?_)
        · have cc := (nI_leI (by omega) (by omega)).mp cc
          refine mw_return dX8_enter_116 rfl ⟨rfl, rfl⟩ ?_
          exact ⟨rfl, by rw [hu, show i = ct P 4 by omega, hw]; rfl⟩
        · have cc := mt (nI_leI (by omega) (by omega)).mpr cc
          refine mw_aload_n 1 dX8_enter_58 rfl ?_
          refine mw_getr 8 8 dX8_enter_59 fl_X8_33 (by decide) (by decide) rfl (sa_o hs) (sa_r8 hs) ?_
          refine mw_iload 0 dX8_enter_62 rfl ?_
          refine mw_iaN i dX8_enter_64 (sa_a8 hs) (by omega) (by decide) rfl ?_
          refine mw_top (x' := (U 1 i)) (bk_i (j := 1) (by decide)) ?_
          refine mw_iconst (v := 2) dX8_enter_65 rfl ?_
          refine mw_icmp_ne (tgt := 110) dX8_enter_66 (by decide) (fun c66 => ?_) (fun c66 => ?_)
          · refine mw_iinc 0 (nI (i + 1)) [(4, .int (nI (i + 1))), (0, .ref s), (1, .int (nI t)), (2, .int c)] dX8_enter_110 rfl (nI_1 _) (Nat.le_of_ble_eq_true rfl) rfl ?_
            refine mw_goto (tgt := 44) dX8_enter_113 (by decide) ?_
            refine ih44 _ _ ?_ ?_ ?_
            · first | omega | rfl | assumption | (simp_all [bo]; done)
            · first | (rw [lo, ← hu, if_pos ⟨c66, c77, Or.inl c82⟩]; done) | (rw [lo, ← hu, if_pos ⟨c66, c77, Or.inr c99⟩]; done) | (rw [lo, ← hu, if_neg (fun q => c66 q.1)]; done) | (rw [lo, ← hu, if_neg (fun q => c77 q.2.1)]; done) | (rw [lo, ← hu, if_neg (fun q => q.2.2.elim c82 c99)]; done)
            · omega
          · refine mw_aload_n 1 dX8_enter_69 rfl ?_
            refine mw_getr 8 10 dX8_enter_70 fl_X8_40 (by decide) (by decide) rfl (sa_o hs) (sa_r10 hs) ?_
            refine mw_iload 0 dX8_enter_73 rfl ?_
            refine mw_iaN i dX8_enter_75 (sa_a10 hs) (by omega) (by decide) rfl ?_
            refine mw_top (x' := (U 3 i)) (bk_i (j := 3) (by decide)) ?_
            refine mw_iload_n 2 dX8_enter_76 rfl ?_
            refine mw_icmp_ne (tgt := 110) dX8_enter_77 (by decide) (fun c77 => ?_) (fun c77 => ?_)
            · refine mw_iinc 0 (nI (i + 1)) [(4, .int (nI (i + 1))), (0, .ref s), (1, .int (nI t)), (2, .int c)] dX8_enter_110 rfl (nI_1 _) (Nat.le_of_ble_eq_true rfl) rfl ?_
              refine mw_goto (tgt := 44) dX8_enter_113 (by decide) ?_
              refine ih44 _ _ ?_ ?_ ?_
              · first | omega | rfl | assumption | (simp_all [bo]; done)
              · first | (rw [lo, ← hu, if_pos ⟨c66, c77, Or.inl c82⟩]; done) | (rw [lo, ← hu, if_pos ⟨c66, c77, Or.inr c99⟩]; done) | (rw [lo, ← hu, if_neg (fun q => c66 q.1)]; done) | (rw [lo, ← hu, if_neg (fun q => c77 q.2.1)]; done) | (rw [lo, ← hu, if_neg (fun q => q.2.2.elim c82 c99)]; done)
              · omega
            · refine mw_iload_n 3 dX8_enter_80 rfl ?_
              refine mw_iconst (v := -1) dX8_enter_81 rfl ?_
              refine mw_icmp_eq (tgt := 102) dX8_enter_82 (by decide) (fun c82 => ?_) (fun c82 => ?_)
              · refine mw_aload_n 1 dX8_enter_102 rfl ?_
                refine mw_getr 8 8 dX8_enter_103 fl_X8_33 (by decide) (by decide) rfl (sa_o hs) (sa_r8 hs) ?_
                refine mw_iload 0 dX8_enter_106 rfl ?_
                refine mw_iconst (v := 0) dX8_enter_108 rfl ?_
                refine mw_isN i dX8_enter_109 (sa_a8 hs) (by omega) (by decide) rfl ?_
                refine mw_hp (bk_si (j := 1) (by decide)) ?_
                refine mw_iinc 0 (nI (i + 1)) [(4, .int (nI (i + 1))), (0, .ref s), (1, .int (nI t)), (2, .int c)] dX8_enter_110 rfl (nI_1 _) (Nat.le_of_ble_eq_true rfl) rfl ?_
                refine mw_goto (tgt := 44) dX8_enter_113 (by decide) ?_
                refine ih44 _ _ ?_ ?_ ?_
                · first | omega | rfl | assumption | (simp_all [bo]; done)
                · first | (rw [lo, ← hu, if_pos ⟨c66, c77, Or.inl c82⟩]; done) | (rw [lo, ← hu, if_pos ⟨c66, c77, Or.inr c99⟩]; done) | (rw [lo, ← hu, if_neg (fun q => c66 q.1)]; done) | (rw [lo, ← hu, if_neg (fun q => c77 q.2.1)]; done) | (rw [lo, ← hu, if_neg (fun q => q.2.2.elim c82 c99)]; done)
                · omega
              · refine mw_aload_n 1 dX8_enter_85 rfl ?_
                refine mw_getr 8 0 dX8_enter_86 fl_X8_52 (by decide) (by decide) rfl (sa_o hs) (sa_r0 hs) ?_
                refine mw_getr 5 13 dX8_enter_89 fl_X8_119 (by decide) (by decide) rfl (pl_o hp) (pl_r13 hp) ?_
                refine mw_iload 0 dX8_enter_92 rfl ?_
                refine mw_iaN i dX8_enter_94 (pl_a13 hp) (by omega) (by decide) rfl ?_
                refine mw_top (x' := (P 14 i)) (bk_o (j := 14) hP (Or.inl hd) (by decide)) ?_
                refine mw_iload_n 3 dX8_enter_95 rfl ?_
                refine mw_ishr dX8_enter_96 ?_
                refine mw_iconst (v := 1) dX8_enter_97 rfl ?_
                refine mw_iand dX8_enter_98 ?_
                refine mw_if_ne (tgt := 110) dX8_enter_99 (by decide) (fun c99 => ?_) (fun c99 => ?_)
                · refine mw_iinc 0 (nI (i + 1)) [(4, .int (nI (i + 1))), (0, .ref s), (1, .int (nI t)), (2, .int c)] dX8_enter_110 rfl (nI_1 _) (Nat.le_of_ble_eq_true rfl) rfl ?_
                  refine mw_goto (tgt := 44) dX8_enter_113 (by decide) ?_
                  refine ih44 _ _ ?_ ?_ ?_
                  · first | omega | rfl | assumption | (simp_all [bo]; done)
                  · first | (rw [lo, ← hu, if_pos ⟨c66, c77, Or.inl c82⟩]; done) | (rw [lo, ← hu, if_pos ⟨c66, c77, Or.inr c99⟩]; done) | (rw [lo, ← hu, if_neg (fun q => c66 q.1)]; done) | (rw [lo, ← hu, if_neg (fun q => c77 q.2.1)]; done) | (rw [lo, ← hu, if_neg (fun q => q.2.2.elim c82 c99)]; done)
                  · omega
                · refine mw_aload_n 1 dX8_enter_102 rfl ?_
                  refine mw_getr 8 8 dX8_enter_103 fl_X8_33 (by decide) (by decide) rfl (sa_o hs) (sa_r8 hs) ?_
                  refine mw_iload 0 dX8_enter_106 rfl ?_
                  refine mw_iconst (v := 0) dX8_enter_108 rfl ?_
                  refine mw_isN i dX8_enter_109 (sa_a8 hs) (by omega) (by decide) rfl ?_
                  refine mw_hp (bk_si (j := 1) (by decide)) ?_
                  refine mw_iinc 0 (nI (i + 1)) [(4, .int (nI (i + 1))), (0, .ref s), (1, .int (nI t)), (2, .int c)] dX8_enter_110 rfl (nI_1 _) (Nat.le_of_ble_eq_true rfl) rfl ?_
                  refine mw_goto (tgt := 44) dX8_enter_113 (by decide) ?_
                  refine ih44 _ _ ?_ ?_ ?_
                  · first | omega | rfl | assumption | (simp_all [bo]; done)
                  · first | (rw [lo, ← hu, if_pos ⟨c66, c77, Or.inl c82⟩]; done) | (rw [lo, ← hu, if_pos ⟨c66, c77, Or.inr c99⟩]; done) | (rw [lo, ← hu, if_neg (fun q => c66 q.1)]; done) | (rw [lo, ← hu, if_neg (fun q => c77 q.2.1)]; done) | (rw [lo, ← hu, if_neg (fun q => q.2.2.elim c82 c99)]; done)
                  · omega
    refine L44 _ 0 W ?_ ?_ (Nat.lt_succ_self _)
    · first | omega | rfl | assumption | (simp_all [bo]; done)
    · rfl
  refine mw_iload_n 2 dX8_enter_0 rfl ?_
  refine mw_iconst (v := -1) dX8_enter_1 rfl ?_
  refine mw_icmp_ne (tgt := 9) dX8_enter_2 (by decide) (fun c2 => ?_) (fun c2 => ?_)
  · refine mw_aload_n 0 dX8_enter_9 rfl ?_
    refine mw_iload_n 2 dX8_enter_10 rfl ?_
    refine mw_iload_n 1 dX8_enter_11 rfl ?_
    refine mw_cV (rest := []) [.int c, .int (nI t)] (c_X8_leastTrainIn d (m_bk h s 7 V SL) s _ P hs hp bk_I (bk_O hP (Or.inl hd)) hN c (nI t)) mY_X8_leastTrainIn dX8_enter_12 ml_X8_195 (sa_o hs) rfl rfl (Nat.le_of_ble_eq_true rfl) ⟨Nat.le_refl _, Nat.le_refl _⟩ rfl ?_
    refine mw_istore_n [(3, .int (s_leastTrainIn P V c (nI t))), (0, .ref s), (1, .int (nI t)), (2, .int c)] dX8_enter_15 (Nat.le_of_ble_eq_true rfl) rfl ?_
    refine mw_aload_n 1 dX8_enter_16 rfl ?_
    refine mw_getr 8 11 dX8_enter_17 fl_X8_43 (by decide) (by decide) rfl (sa_o hs) (sa_r11 hs) ?_
    refine mw_iload_n 2 dX8_enter_20 rfl ?_
    refine mw_iload_n 3 dX8_enter_21 rfl ?_
    refine mw_isN t dX8_enter_22 (sa_a11 hs) (by omega) (by decide) rfl ?_
    refine mw_hp (bk_si (j := 4) (by decide)) ?_
    refine mw_aload_n 1 dX8_enter_23 rfl ?_
    refine mw_getr 8 12 dX8_enter_24 fl_X8_46 (by decide) (by decide) rfl (sa_o hs) (sa_r12 hs) ?_
    refine mw_iload_n 2 dX8_enter_27 rfl ?_
    refine mw_iconst (v := 0) dX8_enter_28 rfl ?_
    refine mw_isN t dX8_enter_29 (sa_a12 hs) (by omega) (by decide) rfl ?_
    refine mw_hp (bk_si (j := 5) (by decide)) ?_
    refine mw_iload_n 0 dX8_enter_30 rfl ?_
    refine mw_iconst (v := -1) dX8_enter_31 rfl ?_
    refine mw_icmp_eq (tgt := 41) dX8_enter_32 (by decide) (fun c32 => ?_) (fun c32 => ?_)
    · refine mw_sub [1, 2, 3] rfl ?_
      refine J41 _ ?_
      · first | (rw [s_ent1, if_pos c2]; rfl) | (rw [s_ent1, if_neg c2, if_pos c32]) | (rw [s_ent1, if_neg c2, if_neg c32])
    · refine mw_aload_n 1 dX8_enter_35 rfl ?_
      refine mw_iload_n 2 dX8_enter_36 rfl ?_
      refine mw_iload_n 3 dX8_enter_37 rfl ?_
      refine mw_cVv (rest := []) [.int (nI t), .int c] (c_X8_crash d (m_bk h s 7 (u2 (u2 V 4 t c) 5 t 0) SL) s _ P _ hs hp bk_I (bk_O hP (Or.inl hd)) hN bk_J hd t c) mY_X8_crash dX8_enter_38 ml_X8_198 (sa_o hs) rfl rfl (Nat.le_of_ble_eq_true rfl) ⟨Nat.le_refl _, Nat.le_refl _⟩ rfl ?_
      refine mw_hp bk_bk ?_
      refine mw_sub [1, 2, 3] rfl ?_
      refine J41 _ ?_
      · first | (rw [s_ent1, if_pos c2]; rfl) | (rw [s_ent1, if_neg c2, if_pos c32]) | (rw [s_ent1, if_neg c2, if_neg c32])
  · refine mw_iconst (v := -1) dX8_enter_5 rfl ?_
    refine mw_goto (tgt := 15) dX8_enter_6 (by decide) ?_
    refine mw_istore_n [(3, .int (-1)), (0, .ref s), (1, .int (nI t)), (2, .int c)] dX8_enter_15 (Nat.le_of_ble_eq_true rfl) rfl ?_
    refine mw_aload_n 1 dX8_enter_16 rfl ?_
    refine mw_getr 8 11 dX8_enter_17 fl_X8_43 (by decide) (by decide) rfl (sa_o hs) (sa_r11 hs) ?_
    refine mw_iload_n 2 dX8_enter_20 rfl ?_
    refine mw_iload_n 3 dX8_enter_21 rfl ?_
    refine mw_isN t dX8_enter_22 (sa_a11 hs) (by omega) (by decide) rfl ?_
    refine mw_hp (bk_si (j := 4) (by decide)) ?_
    refine mw_aload_n 1 dX8_enter_23 rfl ?_
    refine mw_getr 8 12 dX8_enter_24 fl_X8_46 (by decide) (by decide) rfl (sa_o hs) (sa_r12 hs) ?_
    refine mw_iload_n 2 dX8_enter_27 rfl ?_
    refine mw_iconst (v := 0) dX8_enter_28 rfl ?_
    refine mw_isN t dX8_enter_29 (sa_a12 hs) (by omega) (by decide) rfl ?_
    refine mw_hp (bk_si (j := 5) (by decide)) ?_
    refine mw_iload_n 0 dX8_enter_30 rfl ?_
    refine mw_iconst (v := -1) dX8_enter_31 rfl ?_
    refine mw_icmp_eq (tgt := 41) dX8_enter_32 (by decide) (fun c32 => ?_) (fun c32 => ?_)
    · refine mw_sub [1, 2, 3] rfl ?_
      refine J41 _ ?_
      · first | (rw [s_ent1, if_pos c2]; rfl) | (rw [s_ent1, if_neg c2, if_pos c32]) | (rw [s_ent1, if_neg c2, if_neg c32])
    · exact absurd rfl c32
def s_goal (P V : m_V) (t : Nat) : Int32 := if p_signalAt P (V 4 t) (P 20 t) = -1 then s_gbt P V t else s_gbs P V (p_signalAt P (V 4 t) (P 20 t))
def s_goalV (P V : m_V) (t : Nat) : m_V := if p_signalAt P (V 4 t) (P 20 t) = -1 then V else s_gbsV P V (nI t) (p_signalAt P (V 4 t) (P 20 t))
def s_moveV (P V : m_V) (t : Nat) : m_V := if s_goal P V t = -2 then u2 (u2 (s_goalV P V t) 0 7 (s_goalV P V t 0 7 ||| (1 <<< (nI t &&& 31)))) 6 t (s_goalV P V t 6 t + 1) else s_enterV P (s_goalV P V t) t (s_goal P V t)
def s_runV (P V : m_V) (t : Nat) : m_V := if P 3 (V 4 t).toNatClampNeg ≤ V 5 t + 1 then s_moveV P (u2 V 5 t (V 5 t + 1)) t else u2 V 5 t (V 5 t + 1)
set_option maxRecDepth 100000 in
set_option maxHeartbeats 4000000 in
theorem c_X8_runTrain (d : Nat) (h : m_H) (s : Nat) (V P : m_V) (SL : m_L) (hs : isState h.2.2 s) (hp : isPlan h.2.2 4) (hV : blI h s 7 V) (hP : blI h 4 21 P) (hN : okP P) (hSL : blJ h s 7 SL) (hd : 4 + 21 ≤ s) (t a : Nat) (ht : t < 5) (ha : V 4 t = nI a) (ha12 : a < 12) : MC yX8_runTrain cX8_runTrain 4 none (d + 3) 0 0 [.ref s, .int (nI t)] h (m_rn (m_bk h s 7 (s_runV P V t) SL)) := by
  refine mc_of (by decide +kernel) (Nat.le_of_ble_eq_true rfl) ?_
  show MW (yX8_runTrain.cls, cX8_runTrain, 4, none, yX8_runTrain.name, d + 3, 0, 0) 0 (0, 0) [(0, .ref s), (1, .int (nI t))] [] h _
  refine mw_hp (bk_self (n := 7) hV hSL) ?_
  refine mw_aload_n 0 dX8_runTrain_0 rfl ?_
  refine mw_getr 8 12 dX8_runTrain_1 fl_X8_46 (by decide) (by decide) rfl (sa_o hs) (sa_r12 hs) ?_
  refine mw_iload_n 1 dX8_runTrain_4 rfl ?_
  refine mw_dup2 dX8_runTrain_5 rfl rfl ?_
  refine mw_iaN t dX8_runTrain_6 (sa_a12 hs) (by omega) (by decide) rfl ?_
  refine mw_top (x' := (V 5 t)) (bk_i (j := 5) (by decide)) ?_
  refine mw_iconst (v := 1) dX8_runTrain_7 rfl ?_
  refine mw_iadd dX8_runTrain_8 ?_
  refine mw_isN t dX8_runTrain_9 (sa_a12 hs) (by omega) (by decide) rfl ?_
  refine mw_hp (bk_si (j := 5) (by decide)) ?_
  refine mw_aload_n 0 dX8_runTrain_10 rfl ?_
  refine mw_getr 8 12 dX8_runTrain_11 fl_X8_46 (by decide) (by decide) rfl (sa_o hs) (sa_r12 hs) ?_
  refine mw_iload_n 1 dX8_runTrain_14 rfl ?_
  refine mw_iaN t dX8_runTrain_15 (sa_a12 hs) (by omega) (by decide) rfl ?_
  refine mw_top (x' := ((V 5 t) + 1)) ((bk_i (j := 5) (by decide)).trans (u2_same (V := V) (j := 5) (k := t) (x := ((V 5 t) + 1)))) ?_
  refine mw_aload_n 0 dX8_runTrain_16 rfl ?_
  refine mw_getr 8 0 dX8_runTrain_17 fl_X8_52 (by decide) (by decide) rfl (sa_o hs) (sa_r0 hs) ?_
  refine mw_getr 5 2 dX8_runTrain_20 fl_X8_160 (by decide) (by decide) rfl (pl_o hp) (pl_r2 hp) ?_
  refine mw_aload_n 0 dX8_runTrain_23 rfl ?_
  refine mw_getr 8 11 dX8_runTrain_24 fl_X8_43 (by decide) (by decide) rfl (sa_o hs) (sa_r11 hs) ?_
  refine mw_iload_n 1 dX8_runTrain_27 rfl ?_
  refine mw_iaN t dX8_runTrain_28 (sa_a11 hs) (by omega) (by decide) rfl ?_
  refine mw_top (x' := (V 4 t)) (bk_i (j := 4) (by decide)) ?_
  refine mw_iaN a dX8_runTrain_29 (pl_a2 hp) (by omega) (by decide) ha ?_
  refine mw_top (x' := (P 3 a)) (bk_o (j := 3) hP (Or.inl hd) (by decide)) ?_
  refine mw_icmp_ge (tgt := 34) dX8_runTrain_30 (by decide) (fun c30 => ?_) (fun c30 => ?_)
  · have c30 : P 3 (V 4 t).toNatClampNeg ≤ V 5 t + 1 := by rw [ha, nI_clamp (by omega)]; exact c30
    have J77 : ∀ (W : m_V) (g : Int32), (W = s_goalV P (u2 V 5 t (V 5 t + 1)) t) → (g = s_goal P (u2 V 5 t (V 5 t + 1)) t) → MW (yX8_runTrain.cls, cX8_runTrain, 4, none, yX8_runTrain.name, d + 3, 0, 0) 77 (0, 0) [(3, .int g), (0, .ref s), (1, .int (nI t))] [] (m_bk h s 7 W SL) (m_rn (m_bk h s 7 (s_runV P V t) SL)) := by
      intro W g hw hg
      refine mw_iload_n 0 dX8_runTrain_77 rfl ?_
      refine mw_bipush (v := -2) dX8_runTrain_78 (by decide) ?_
      refine mw_icmp_ne (tgt := 108) dX8_runTrain_80 (by decide) (fun c80 => ?_) (fun c80 => ?_)
      · refine mw_aload_n 1 dX8_runTrain_108 rfl ?_
        refine mw_iload_n 2 dX8_runTrain_109 rfl ?_
        refine mw_iload_n 0 dX8_runTrain_110 rfl ?_
        refine mw_cVv (rest := []) [.int (nI t), .int g] (c_X8_enter d (m_bk h s 7 W SL) s _ P _ hs hp bk_I (bk_O hP (Or.inl hd)) hN bk_J hd t _ ht) mY_X8_enter dX8_runTrain_111 ml_X8_172 (sa_o hs) rfl rfl (Nat.le_of_ble_eq_true rfl) ⟨Nat.le_refl _, Nat.le_refl _⟩ rfl ?_
        refine mw_hp bk_bk ?_
        refine mw_return dX8_runTrain_114 rfl ⟨rfl, rfl⟩ ?_
        exact ⟨rfl, by first | (rw [s_runV, if_pos c30, s_moveV, ← hg, ← hw, if_pos c80]) | (rw [s_runV, if_pos c30, s_moveV, ← hg, ← hw, if_neg c80])⟩
      · refine mw_aload_n 1 dX8_runTrain_83 rfl ?_
        refine mw_dup dX8_runTrain_84 rfl ?_
        refine mw_geti 8 7 dX8_runTrain_85 fl_X8_30 (by decide) (by decide) rfl (sa_o hs) ?_
        refine mw_top (x' := (W 0 7)) (bk_i (j := 0) (by decide)) ?_
        refine mw_iconst (v := 1) dX8_runTrain_88 rfl ?_
        refine mw_iload_n 2 dX8_runTrain_89 rfl ?_
        refine mw_ishl dX8_runTrain_90 ?_
        refine mw_ior dX8_runTrain_91 ?_
        refine mw_puti 8 7 dX8_runTrain_92 fl_X8_30 (by decide) (by decide) rfl rfl (sa_o hs) ⟨rfl, rfl⟩ ?_
        refine mw_hp (bk_si (j := 0) (by decide)) ?_
        refine mw_aload_n 1 dX8_runTrain_95 rfl ?_
        refine mw_getr 8 13 dX8_runTrain_96 fl_X8_49 (by decide) (by decide) rfl (sa_o hs) (sa_r13 hs) ?_
        refine mw_iload_n 2 dX8_runTrain_99 rfl ?_
        refine mw_dup2 dX8_runTrain_100 rfl rfl ?_
        refine mw_iaN t dX8_runTrain_101 (sa_a13 hs) (by omega) (by decide) rfl ?_
        refine mw_top (x' := (W 6 t)) (bk_i (j := 6) (by decide)) ?_
        refine mw_iconst (v := 1) dX8_runTrain_102 rfl ?_
        refine mw_iadd dX8_runTrain_103 ?_
        refine mw_isN t dX8_runTrain_104 (sa_a13 hs) (by omega) (by decide) rfl ?_
        refine mw_hp (bk_si (j := 6) (by decide)) ?_
        refine mw_goto (tgt := 114) dX8_runTrain_105 (by decide) ?_
        refine mw_return dX8_runTrain_114 rfl ⟨rfl, rfl⟩ ?_
        exact ⟨rfl, by first | (rw [s_runV, if_pos c30, s_moveV, ← hg, ← hw, if_pos c80]) | (rw [s_runV, if_pos c30, s_moveV, ← hg, ← hw, if_neg c80])⟩
    refine mw_aload_n 0 dX8_runTrain_34 rfl ?_
    refine mw_getr 8 0 dX8_runTrain_35 fl_X8_52 (by decide) (by decide) rfl (sa_o hs) (sa_r0 hs) ?_
    refine mw_aload_n 0 dX8_runTrain_38 rfl ?_
    refine mw_getr 8 11 dX8_runTrain_39 fl_X8_43 (by decide) (by decide) rfl (sa_o hs) (sa_r11 hs) ?_
    refine mw_iload_n 1 dX8_runTrain_42 rfl ?_
    refine mw_iaN t dX8_runTrain_43 (sa_a11 hs) (by omega) (by decide) rfl ?_
    refine mw_top (x' := (V 4 t)) (bk_i (j := 4) (by decide)) ?_
    refine mw_aload_n 0 dX8_runTrain_44 rfl ?_
    refine mw_getr 8 0 dX8_runTrain_45 fl_X8_52 (by decide) (by decide) rfl (sa_o hs) (sa_r0 hs) ?_
    refine mw_getr 5 19 dX8_runTrain_48 fl_X8_138 (by decide) (by decide) rfl (pl_o hp) (pl_r19 hp) ?_
    refine mw_iload_n 1 dX8_runTrain_51 rfl ?_
    refine mw_iaN t dX8_runTrain_52 (pl_a19 hp) (by omega) (by decide) rfl ?_
    refine mw_top (x' := (P 20 t)) (bk_o (j := 20) hP (Or.inl hd) (by decide)) ?_
    refine mw_cV (rest := []) [.int (V 4 t), .int (P 20 t)] (c_X5_signalAt (d + 1) (m_bk h s 7 (u2 V 5 t ((V 5 t) + 1)) SL) 4 P hp (bk_O hP (Or.inl hd)) hN (V 4 t) (P 20 t)) mY_X5_signalAt dX8_runTrain_53 ml_X8_163 (pl_o hp) rfl rfl (Nat.le_of_ble_eq_true rfl) ⟨Nat.le_refl _, Nat.le_refl _⟩ rfl ?_
    refine mw_istore_n [(2, .int (p_signalAt P (V 4 t) (P 20 t))), (0, .ref s), (1, .int (nI t))] dX8_runTrain_56 (Nat.le_of_ble_eq_true rfl) rfl ?_
    refine mw_iload_n 0 dX8_runTrain_57 rfl ?_
    refine mw_iconst (v := -1) dX8_runTrain_58 rfl ?_
    refine mw_icmp_ne (tgt := 70) dX8_runTrain_59 (by decide) (fun c59 => ?_) (fun c59 => ?_)
    · refine mw_aload_n 1 dX8_runTrain_70 rfl ?_
      refine mw_iload_n 2 dX8_runTrain_71 rfl ?_
      refine mw_iload_n 0 dX8_runTrain_72 rfl ?_
      refine mw_cV (rest := []) [.int (nI t), .int (p_signalAt P (V 4 t) (P 20 t))] (c_X8_goalBySignal d (m_bk h s 7 (u2 V 5 t ((V 5 t) + 1)) SL) s _ P _ hs hp bk_I (bk_O hP (Or.inl hd)) hN bk_J hd (nI t) _) mY_X8_goalBySignal dX8_runTrain_73 ml_X8_169 (sa_o hs) rfl rfl (Nat.le_of_ble_eq_true rfl) ⟨Nat.le_refl _, Nat.le_refl _⟩ rfl ?_
      refine mw_hp bk_bk ?_
      refine mw_istore_n [(3, .int (s_gbs P (u2 V 5 t (V 5 t + 1)) (p_signalAt P (V 4 t) (P 20 t)))), (2, .int (p_signalAt P (V 4 t) (P 20 t))), (0, .ref s), (1, .int (nI t))] dX8_runTrain_76 (Nat.le_of_ble_eq_true rfl) rfl ?_
      refine mw_sub [0, 2, 3] rfl ?_
      refine J77 _ _ ?_ ?_
      · first | (rw [s_goalV]; exact (if_pos c59).symm) | (rw [s_goalV]; exact (if_neg c59).symm)
      · first | (rw [s_goal]; exact (if_pos c59).symm) | (rw [s_goal]; exact (if_neg c59).symm)
    · refine mw_aload_n 1 dX8_runTrain_62 rfl ?_
      refine mw_iload_n 2 dX8_runTrain_63 rfl ?_
      refine mw_cV (rest := []) [.int (nI t)] (c_X8_goalByTracks d (m_bk h s 7 (u2 V 5 t ((V 5 t) + 1)) SL) s _ P hs hp bk_I (bk_O hP (Or.inl hd)) hN t ht) mY_X8_goalByTracks dX8_runTrain_64 ml_X8_166 (sa_o hs) rfl rfl (Nat.le_of_ble_eq_true rfl) ⟨Nat.le_refl _, Nat.le_refl _⟩ rfl ?_
      refine mw_goto (tgt := 76) dX8_runTrain_67 (by decide) ?_
      refine mw_istore_n [(3, .int (s_gbt P (u2 V 5 t (V 5 t + 1)) t)), (2, .int (p_signalAt P (V 4 t) (P 20 t))), (0, .ref s), (1, .int (nI t))] dX8_runTrain_76 (Nat.le_of_ble_eq_true rfl) rfl ?_
      refine mw_sub [0, 2, 3] rfl ?_
      refine J77 _ _ ?_ ?_
      · first | (rw [s_goalV]; exact (if_pos c59).symm) | (rw [s_goalV]; exact (if_neg c59).symm)
      · first | (rw [s_goal]; exact (if_pos c59).symm) | (rw [s_goal]; exact (if_neg c59).symm)
  · have c30 : ¬ P 3 (V 4 t).toNatClampNeg ≤ V 5 t + 1 := by rw [ha, nI_clamp (by omega)]; exact c30
    refine mw_return dX8_runTrain_33 rfl ⟨rfl, rfl⟩ ?_
    exact ⟨rfl, by rw [s_runV, if_neg c30]⟩
