theorem bk_fill {h : m_H} {b n j N : Nat} {V : m_V} {L : m_L} {v : Int32} (hj : j < n) : m_ci (m_bk h b n V L) (b + j) (fun k => if k < N then v else (m_bk h b n V L).1 (b + j) k) = m_bk h b n (u1 V j (fun k => if k < N then v else V j k)) L := by
  rw [bk_ci hj]
  congr 2
  funext k
  rw [bk_i hj]
theorem bk_copy {h : m_H} {b n p m j i N : Nat} {V O : m_V} {L : m_L} (hO : blI h p m O) (ho : p + m ≤ b ∨ b + n ≤ p) (hi : i < m) (hj : j < n) : m_ci (m_bk h b n V L) (b + j) (cpy N ((m_bk h b n V L).1 (p + i)) ((m_bk h b n V L).1 (b + j))) = m_bk h b n (u1 V j (cpy N (O i) (V j))) L := by
  rw [bk_ci hj]
  congr 3
  · funext k; exact bk_o hO ho hi
  · funext k; exact bk_i hj
theorem bk_copyl {h : m_H} {b n p m j i N : Nat} {V : m_V} {L M : m_L} (hO : blJ h p m M) (ho : p + m ≤ b ∨ b + n ≤ p) (hi : i < m) (hj : j < n) : m_cl' (m_bk h b n V L) (b + j) (cpyl N ((m_bk h b n V L).2.1 (p + i)) ((m_bk h b n V L).2.1 (b + j))) = m_bk h b n V (u1l L j (cpyl N (M i) (L j))) := by
  rw [bk_cl hj]
  congr 3
  · funext k; exact bk_oJ hO ho hi
  · funext k; exact bk_l hj
theorem u2_u2 {V : m_V} {j k : Nat} {x y : Int32} : u2 (u2 V j k x) j k y = u2 V j k y := by
  funext j' k'
  simp only [u2]
  split <;> rfl
theorem sh1 {n : Nat} (h : n ≤ 10) : (1 : Int32) <<< (nI n &&& 31) = nI (2 ^ n) := by
  have : ∀ n, n ≤ 10 → (1 : Int32) <<< (nI n &&& 31) = nI (2 ^ n) := by decide +kernel
  exact this n h
def p_lackB (P : m_V) (r : Nat) : Int32 := (P 18 r &&& (P 17 r ^^^ -1)) &&& (p_routesOf P (P 11 r) ^^^ -1) &&& ((-1 : Int32) <<< ((nI r + 1) &&& 31))
set_option maxRecDepth 100000 in
set_option maxHeartbeats 4000000 in
theorem c_X5_lackingBehind (d : Nat) (h : m_H) (p : Nat) (P : m_V) (hp : isPlan h.2.2 p) (hP : blI h p 21 P) (hN : okP P) (r : Nat) (hr : r < 10) : MC yX5_lackingBehind cX5_lackingBehind 3 (some .int) (d + 2) 0 0 [.ref p, .int (nI r)] h (m_r (.int (p_lackB P r)) h) := by
  refine mc_of (by decide +kernel) (Nat.le_of_ble_eq_true rfl) ?_
  show MW (yX5_lackingBehind.cls, cX5_lackingBehind, 3, (some .int), yX5_lackingBehind.name, d + 2, 0, 0) 0 (0, 0) [(0, .ref p), (1, .int (nI r))] [] h _
  refine mw_iconst (v := -1) dX5_lackingBehind_0 rfl ?_
  refine mw_iload_n 1 dX5_lackingBehind_1 rfl ?_
  refine mw_iconst (v := 1) dX5_lackingBehind_2 rfl ?_
  refine mw_iadd dX5_lackingBehind_3 ?_
  refine mw_ishl dX5_lackingBehind_4 ?_
  refine mw_istore_n [(2, .int ((-1) <<< (((nI r) + 1) &&& 31))), (0, .ref p), (1, .int (nI r))] dX5_lackingBehind_5 (Nat.le_of_ble_eq_true rfl) rfl ?_
  refine mw_aload_n 1 dX5_lackingBehind_6 rfl ?_
  refine mw_getr 5 17 dX5_lackingBehind_7 fl_X5_64 (by decide) (by decide) rfl (pl_o hp) (pl_r17 hp) ?_
  refine mw_iload_n 2 dX5_lackingBehind_10 rfl ?_
  refine mw_iaN r dX5_lackingBehind_11 (pl_a17 hp) (by omega) (by decide) rfl ?_
  refine mw_top (x' := (P 18 r)) (hP 18 r (by decide)) ?_
  refine mw_aload_n 1 dX5_lackingBehind_12 rfl ?_
  refine mw_getr 5 16 dX5_lackingBehind_13 fl_X5_61 (by decide) (by decide) rfl (pl_o hp) (pl_r16 hp) ?_
  refine mw_iload_n 2 dX5_lackingBehind_16 rfl ?_
  refine mw_iaN r dX5_lackingBehind_17 (pl_a16 hp) (by omega) (by decide) rfl ?_
  refine mw_top (x' := (P 17 r)) (hP 17 r (by decide)) ?_
  refine mw_iconst (v := -1) dX5_lackingBehind_18 rfl ?_
  refine mw_ixor dX5_lackingBehind_19 ?_
  refine mw_iand dX5_lackingBehind_20 ?_
  refine mw_aload_n 1 dX5_lackingBehind_21 rfl ?_
  refine mw_aload_n 1 dX5_lackingBehind_22 rfl ?_
  refine mw_getr 5 10 dX5_lackingBehind_23 fl_X5_43 (by decide) (by decide) rfl (pl_o hp) (pl_r10 hp) ?_
  refine mw_iload_n 2 dX5_lackingBehind_26 rfl ?_
  refine mw_iaN r dX5_lackingBehind_27 (pl_a10 hp) (by omega) (by decide) rfl ?_
  refine mw_top (x' := (P 11 r)) (hP 11 r (by decide)) ?_
  refine mw_cV (rest := [.int ((P 18 r) &&& ((P 17 r) ^^^ (-1)))]) [.int (P 11 r)] (c_X5_routesOf d h p P hp hP hN _) mY_X5_routesOf dX5_lackingBehind_28 ml_X5_101 (pl_o hp) rfl rfl (Nat.le_of_ble_eq_true rfl) ⟨Nat.le_refl _, Nat.le_refl _⟩ rfl ?_
  refine mw_iconst (v := -1) dX5_lackingBehind_31 rfl ?_
  refine mw_ixor dX5_lackingBehind_32 ?_
  refine mw_iand dX5_lackingBehind_33 ?_
  refine mw_iload_n 0 dX5_lackingBehind_34 rfl ?_
  refine mw_iand dX5_lackingBehind_35 ?_
  refine mw_ireturn dX5_lackingBehind_36 rfl rfl ⟨rfl, rfl⟩ ?_
  exact ⟨rfl, rfl⟩
def p_countLacking (P : m_V) : Int32 := lo (fun r a => a + bc (p_lackB P r)) (ct P 4) 0
set_option maxRecDepth 100000 in
set_option maxHeartbeats 4000000 in
theorem c_X5_countLacking (d : Nat) (h : m_H) (p : Nat) (P : m_V) (hp : isPlan h.2.2 p) (hP : blI h p 21 P) (hN : okP P)  : MC yX5_countLacking cX5_countLacking 3 (some .int) (d + 3) 0 0 [.ref p] h (m_r (.int (p_countLacking P)) h) := by
  obtain ⟨e4, g4⟩ := hN.2.2.2.2.1
  refine mc_of (by decide +kernel) (Nat.le_of_ble_eq_true rfl) ?_
  show MW (yX5_countLacking.cls, cX5_countLacking, 3, (some .int), yX5_countLacking.name, d + 3, 0, 0) 0 (0, 0) [(0, .ref p)] [] h _
  refine mw_iconst (v := 0) dX5_countLacking_0 rfl ?_
  refine mw_istore_n [(1, .int 0), (0, .ref p)] dX5_countLacking_1 (Nat.le_of_ble_eq_true rfl) rfl ?_
  refine mw_iconst (v := 0) dX5_countLacking_2 rfl ?_
  refine mw_istore_n [(2, .int 0), (1, .int 0), (0, .ref p)] dX5_countLacking_3 (Nat.le_of_ble_eq_true rfl) rfl ?_
  have L4 : ∀ (m4 : Nat) (i : Nat) (acc : Int32), (i ≤ ct P 4) → (acc = lo (fun r a => a + bc (p_lackB P r)) i 0) → ct P 4 - i < m4 → MW (yX5_countLacking.cls, cX5_countLacking, 3, (some .int), yX5_countLacking.name, d + 3, 0, 0) 4 (0, 0) [(2, .int (nI i)), (1, .int acc), (0, .ref p)] [] h (m_r (.int (p_countLacking P)) h) := by
    intro m4
    induction m4 with
    | zero => intro i acc _ _ hm4; exact absurd hm4 (Nat.not_lt_zero _)
    | succ m4 ih4 =>
      intro i acc hi ha hm4
      refine mw_iload_n 0 dX5_countLacking_4 rfl ?_
      refine mw_aload_n 2 dX5_countLacking_5 rfl ?_
      refine mw_getr 5 0 dX5_countLacking_6 fl_X5_9 (by decide) (by decide) rfl (pl_o hp) (pl_r0 hp) ?_
      refine mw_iconst (v := 4) dX5_countLacking_9 rfl ?_
      refine mw_iaN 4 dX5_countLacking_10 (pl_a0 hp) (by decide) (by decide) (by decide) ?_
      refine mw_top (x' := (nI (ct P 4))) ((hP 1 4 (by decide)).trans e4) ?_
      refine mw_icmp_ge (tgt := 31) dX5_countLacking_11 (by decide) (fun c => ?_) (fun c => ?_)
      · have c := (nI_leI (by omega) (by omega)).mp c
        refine mw_iload_n 1 dX5_countLacking_31 rfl ?_
        refine mw_ireturn dX5_countLacking_32 rfl rfl ⟨rfl, rfl⟩ ?_
        exact ⟨by rw [ha, show i = ct P 4 by omega]; rfl, rfl⟩
      · have c := mt (nI_leI (by omega) (by omega)).mpr c
        refine mw_iload_n 1 dX5_countLacking_14 rfl ?_
        refine mw_aload_n 2 dX5_countLacking_15 rfl ?_
        refine mw_iload_n 0 dX5_countLacking_16 rfl ?_
        refine mw_cV (rest := [.int acc]) [.int (nI i)] (c_X5_lackingBehind d h p P hp hP hN i (by omega)) mY_X5_lackingBehind dX5_countLacking_17 ml_X5_105 (pl_o hp) rfl rfl (Nat.le_of_ble_eq_true rfl) ⟨Nat.le_refl _, Nat.le_refl _⟩ rfl ?_
        refine mw_cS (rest := [.int acc]) [.int (p_lackB P i)] (c_J6_bitCount_0f7a4 (d + 1) h _) mY_J6_bitCount_0f7a4 dX5_countLacking_20 ml_X5_108 rfl rfl (Nat.le_of_ble_eq_true rfl) ⟨Nat.le_refl _, Nat.le_refl _⟩ rfl ?_
        refine mw_iadd dX5_countLacking_23 ?_
        refine mw_istore_n [(1, .int (acc + (bc (p_lackB P i)))), (2, .int (nI i)), (0, .ref p)] dX5_countLacking_24 (Nat.le_of_ble_eq_true rfl) rfl ?_
        refine mw_iinc 1 (nI (i + 1)) [(2, .int (nI (i + 1))), (1, .int (acc + (bc (p_lackB P i)))), (0, .ref p)] dX5_countLacking_25 rfl (nI_1 _) (Nat.le_of_ble_eq_true rfl) rfl ?_
        refine mw_goto (tgt := 4) dX5_countLacking_28 (by decide) ?_
        refine ih4 _ _ ?_ ?_ ?_
        · first | omega | rfl | assumption | (simp_all [bo]; done)
        · rw [ha]; rfl
        · omega
  refine L4 _ 0 0 ?_ ?_ (Nat.lt_succ_self _)
  · first | omega | rfl | assumption | (simp_all [bo]; done)
  · rfl
def p_countSpare (P : m_V) : Int32 := lo (fun r a => a + bc (P 17 r &&& (P 18 r ^^^ -1))) (ct P 4) 0 / 2
set_option maxRecDepth 100000 in
set_option maxHeartbeats 4000000 in
theorem c_X5_countSpare (d : Nat) (h : m_H) (p : Nat) (P : m_V) (hp : isPlan h.2.2 p) (hP : blI h p 21 P) (hN : okP P)  : MC yX5_countSpare cX5_countSpare 3 (some .int) (d + 2) 0 0 [.ref p] h (m_r (.int (p_countSpare P)) h) := by
  obtain ⟨e4, g4⟩ := hN.2.2.2.2.1
  refine mc_of (by decide +kernel) (Nat.le_of_ble_eq_true rfl) ?_
  show MW (yX5_countSpare.cls, cX5_countSpare, 3, (some .int), yX5_countSpare.name, d + 2, 0, 0) 0 (0, 0) [(0, .ref p)] [] h _
  refine mw_iconst (v := 0) dX5_countSpare_0 rfl ?_
  refine mw_istore_n [(1, .int 0), (0, .ref p)] dX5_countSpare_1 (Nat.le_of_ble_eq_true rfl) rfl ?_
  refine mw_iconst (v := 0) dX5_countSpare_2 rfl ?_
  refine mw_istore_n [(2, .int 0), (1, .int 0), (0, .ref p)] dX5_countSpare_3 (Nat.le_of_ble_eq_true rfl) rfl ?_
  have L4 : ∀ (m4 : Nat) (i : Nat) (acc : Int32), (i ≤ ct P 4) → (acc = lo (fun r a => a + bc (P 17 r &&& (P 18 r ^^^ -1))) i 0) → ct P 4 - i < m4 → MW (yX5_countSpare.cls, cX5_countSpare, 3, (some .int), yX5_countSpare.name, d + 2, 0, 0) 4 (0, 0) [(2, .int (nI i)), (1, .int acc), (0, .ref p)] [] h (m_r (.int (p_countSpare P)) h) := by
    intro m4
    induction m4 with
    | zero => intro i acc _ _ hm4; exact absurd hm4 (Nat.not_lt_zero _)
    | succ m4 ih4 =>
      intro i acc hi ha hm4
      refine mw_iload_n 0 dX5_countSpare_4 rfl ?_
      refine mw_aload_n 2 dX5_countSpare_5 rfl ?_
      refine mw_getr 5 0 dX5_countSpare_6 fl_X5_9 (by decide) (by decide) rfl (pl_o hp) (pl_r0 hp) ?_
      refine mw_iconst (v := 4) dX5_countSpare_9 rfl ?_
      refine mw_iaN 4 dX5_countSpare_10 (pl_a0 hp) (by decide) (by decide) (by decide) ?_
      refine mw_top (x' := (nI (ct P 4))) ((hP 1 4 (by decide)).trans e4) ?_
      refine mw_icmp_ge (tgt := 41) dX5_countSpare_11 (by decide) (fun c => ?_) (fun c => ?_)
      · have c := (nI_leI (by omega) (by omega)).mp c
        refine mw_iload_n 1 dX5_countSpare_41 rfl ?_
        refine mw_iconst (v := 2) dX5_countSpare_42 rfl ?_
        refine mw_idiv dX5_countSpare_43 (by decide) ?_
        refine mw_ireturn dX5_countSpare_44 rfl rfl ⟨rfl, rfl⟩ ?_
        exact ⟨by rw [ha, show i = ct P 4 by omega]; rfl, rfl⟩
      · have c := mt (nI_leI (by omega) (by omega)).mpr c
        refine mw_iload_n 1 dX5_countSpare_14 rfl ?_
        refine mw_aload_n 2 dX5_countSpare_15 rfl ?_
        refine mw_getr 5 16 dX5_countSpare_16 fl_X5_61 (by decide) (by decide) rfl (pl_o hp) (pl_r16 hp) ?_
        refine mw_iload_n 0 dX5_countSpare_19 rfl ?_
        refine mw_iaN i dX5_countSpare_20 (pl_a16 hp) (by omega) (by decide) rfl ?_
        refine mw_top (x' := (P 17 i)) (hP 17 i (by decide)) ?_
        refine mw_aload_n 2 dX5_countSpare_21 rfl ?_
        refine mw_getr 5 17 dX5_countSpare_22 fl_X5_64 (by decide) (by decide) rfl (pl_o hp) (pl_r17 hp) ?_
        refine mw_iload_n 0 dX5_countSpare_25 rfl ?_
        refine mw_iaN i dX5_countSpare_26 (pl_a17 hp) (by omega) (by decide) rfl ?_
        refine mw_top (x' := (P 18 i)) (hP 18 i (by decide)) ?_
        refine mw_iconst (v := -1) dX5_countSpare_27 rfl ?_
        refine mw_ixor dX5_countSpare_28 ?_
        refine mw_iand dX5_countSpare_29 ?_
        refine mw_cS (rest := [.int acc]) [.int ((P 17 i) &&& ((P 18 i) ^^^ (-1)))] (c_J6_bitCount_0f7a4 d h _) mY_J6_bitCount_0f7a4 dX5_countSpare_30 ml_X5_108 rfl rfl (Nat.le_of_ble_eq_true rfl) ⟨Nat.le_refl _, Nat.le_refl _⟩ rfl ?_
        refine mw_iadd dX5_countSpare_33 ?_
        refine mw_istore_n [(1, .int (acc + (bc ((P 17 i) &&& ((P 18 i) ^^^ (-1)))))), (2, .int (nI i)), (0, .ref p)] dX5_countSpare_34 (Nat.le_of_ble_eq_true rfl) rfl ?_
        refine mw_iinc 1 (nI (i + 1)) [(2, .int (nI (i + 1))), (1, .int (acc + (bc ((P 17 i) &&& ((P 18 i) ^^^ (-1)))))), (0, .ref p)] dX5_countSpare_35 rfl (nI_1 _) (Nat.le_of_ble_eq_true rfl) rfl ?_
        refine mw_goto (tgt := 4) dX5_countSpare_38 (by decide) ?_
        refine ih4 _ _ ?_ ?_ ?_
        · first | omega | rfl | assumption | (simp_all [bo]; done)
        · rw [ha]; rfl
        · omega
  refine L4 _ 0 0 ?_ ?_ (Nat.lt_succ_self _)
  · first | omega | rfl | assumption | (simp_all [bo]; done)
  · rfl
def p_mostTogether (P : m_V) : Int32 := lo (fun i b => if decide (bc b < bc (nI i)) && p_isPeaceful P (nI i) then nI i else b) (2 ^ ct P 4) 0
set_option maxRecDepth 100000 in
set_option maxHeartbeats 4000000 in
theorem c_X5_mostTogether (d : Nat) (h : m_H) (p : Nat) (P : m_V) (hp : isPlan h.2.2 p) (hP : blI h p 21 P) (hN : okP P)  : MC yX5_mostTogether cX5_mostTogether 3 (some .int) (d + 2) 0 0 [.ref p] h (m_r (.int (p_mostTogether P)) h) := by
  obtain ⟨e4, g4⟩ := hN.2.2.2.2.1
  refine mc_of (by decide +kernel) (Nat.le_of_ble_eq_true rfl) ?_
  show MW (yX5_mostTogether.cls, cX5_mostTogether, 3, (some .int), yX5_mostTogether.name, d + 2, 0, 0) 0 (0, 0) [(0, .ref p)] [] h _
  refine mw_iconst (v := 0) dX5_mostTogether_0 rfl ?_
  refine mw_istore_n [(1, .int 0), (0, .ref p)] dX5_mostTogether_1 (Nat.le_of_ble_eq_true rfl) rfl ?_
  refine mw_iconst (v := 0) dX5_mostTogether_2 rfl ?_
  refine mw_istore_n [(2, .int 0), (1, .int 0), (0, .ref p)] dX5_mostTogether_3 (Nat.le_of_ble_eq_true rfl) rfl ?_
  have L4 : ∀ (m4 : Nat) (i : Nat) (acc : Int32), (i ≤ 2 ^ ct P 4) → (acc = lo (fun i b => if decide (bc b < bc (nI i)) && p_isPeaceful P (nI i) then nI i else b) i 0) → 2 ^ ct P 4 - i < m4 → MW (yX5_mostTogether.cls, cX5_mostTogether, 3, (some .int), yX5_mostTogether.name, d + 2, 0, 0) 4 (0, 0) [(2, .int (nI i)), (1, .int acc), (0, .ref p)] [] h (m_r (.int (p_mostTogether P)) h) := by
    intro m4
    induction m4 with
    | zero => intro i acc _ _ hm4; exact absurd hm4 (Nat.not_lt_zero _)
    | succ m4 ih4 =>
      intro i acc hi ha hm4
      have hpw : 2 ^ ct P 4 ≤ 2 ^ 10 := Nat.pow_le_pow_right (by decide) g4
      refine mw_iload_n 0 dX5_mostTogether_4 rfl ?_
      refine mw_iconst (v := 1) dX5_mostTogether_5 rfl ?_
      refine mw_aload_n 2 dX5_mostTogether_6 rfl ?_
      refine mw_getr 5 0 dX5_mostTogether_7 fl_X5_9 (by decide) (by decide) rfl (pl_o hp) (pl_r0 hp) ?_
      refine mw_iconst (v := 4) dX5_mostTogether_10 rfl ?_
      refine mw_iaN 4 dX5_mostTogether_11 (pl_a0 hp) (by decide) (by decide) (by decide) ?_
      refine mw_top (x' := (nI (ct P 4))) ((hP 1 4 (by decide)).trans e4) ?_
      refine mw_ishl dX5_mostTogether_12 ?_
      refine mw_top (x' := (nI (2 ^ ct P 4))) (sh1 g4) ?_
      refine mw_icmp_ge (tgt := 43) dX5_mostTogether_13 (by decide) (fun c => ?_) (fun c => ?_)
      · have c := (nI_leI (by omega) (by omega)).mp c
        refine mw_iload_n 1 dX5_mostTogether_43 rfl ?_
        refine mw_ireturn dX5_mostTogether_44 rfl rfl ⟨rfl, rfl⟩ ?_
        exact ⟨by rw [ha, show i = 2 ^ ct P 4 by omega]; rfl, rfl⟩
      · have c := mt (nI_leI (by omega) (by omega)).mpr c
        refine mw_iload_n 0 dX5_mostTogether_16 rfl ?_
        refine mw_cS (rest := []) [.int (nI i)] (c_J6_bitCount_0f7a4 d h _) mY_J6_bitCount_0f7a4 dX5_mostTogether_17 ml_X5_108 rfl rfl (Nat.le_of_ble_eq_true rfl) ⟨Nat.le_refl _, Nat.le_refl _⟩ rfl ?_
        refine mw_iload_n 1 dX5_mostTogether_20 rfl ?_
        refine mw_cS (rest := [.int (bc (nI i))]) [.int acc] (c_J6_bitCount_0f7a4 d h _) mY_J6_bitCount_0f7a4 dX5_mostTogether_21 ml_X5_108 rfl rfl (Nat.le_of_ble_eq_true rfl) ⟨Nat.le_refl _, Nat.le_refl _⟩ rfl ?_
        refine mw_icmp_le (tgt := 37) dX5_mostTogether_24 (by decide) (fun c24 => ?_) (fun c24 => ?_)
        · have c24 : ¬ bc acc < bc (nI i) := by rw [i32_lt]; rw [i32_le] at c24; omega
          refine mw_iinc 0 (nI (i + 1)) [(2, .int (nI (i + 1))), (1, .int acc), (0, .ref p)] dX5_mostTogether_37 rfl (nI_1 _) (Nat.le_of_ble_eq_true rfl) rfl ?_
          refine mw_goto (tgt := 4) dX5_mostTogether_40 (by decide) ?_
          refine ih4 _ _ ?_ ?_ ?_
          · first | omega | rfl | assumption | (simp_all [bo]; done)
          · first | (rw [lo, ← ha]; simp [c24, c32]; done) | (rw [lo, ← ha]; simp [c24]; done)
          · omega
        · have c24 : bc acc < bc (nI i) := by rw [i32_lt]; rw [i32_le] at c24; omega
          refine mw_aload_n 2 dX5_mostTogether_27 rfl ?_
          refine mw_iload_n 0 dX5_mostTogether_28 rfl ?_
          refine mw_cV (rest := []) [.int (nI i)] (c_X5_isPeaceful d h p P hp hP hN (nI i)) mY_X5_isPeaceful dX5_mostTogether_29 ml_X5_113 (pl_o hp) rfl rfl (Nat.le_of_ble_eq_true rfl) ⟨Nat.le_refl _, Nat.le_refl _⟩ rfl ?_
          refine mw_if_eq (tgt := 37) dX5_mostTogether_32 (by decide) (fun c32 => ?_) (fun c32 => ?_)
          · have c32 : p_isPeaceful P (nI i) = false := by revert c32; cases p_isPeaceful P (nI i) <;> simp [b2]
            refine mw_iinc 0 (nI (i + 1)) [(2, .int (nI (i + 1))), (1, .int acc), (0, .ref p)] dX5_mostTogether_37 rfl (nI_1 _) (Nat.le_of_ble_eq_true rfl) rfl ?_
            refine mw_goto (tgt := 4) dX5_mostTogether_40 (by decide) ?_
            refine ih4 _ _ ?_ ?_ ?_
            · first | omega | rfl | assumption | (simp_all [bo]; done)
            · first | (rw [lo, ← ha]; simp [c24, c32]; done) | (rw [lo, ← ha]; simp [c24]; done)
            · omega
          · have c32 : p_isPeaceful P (nI i) = true := by revert c32; cases p_isPeaceful P (nI i) <;> simp [b2]
            refine mw_iload_n 0 dX5_mostTogether_35 rfl ?_
            refine mw_istore_n [(1, .int (nI i)), (2, .int (nI i)), (0, .ref p)] dX5_mostTogether_36 (Nat.le_of_ble_eq_true rfl) rfl ?_
            refine mw_iinc 1 (nI (i + 1)) [(2, .int (nI (i + 1))), (1, .int (nI i)), (0, .ref p)] dX5_mostTogether_37 rfl (nI_1 _) (Nat.le_of_ble_eq_true rfl) rfl ?_
            refine mw_goto (tgt := 4) dX5_mostTogether_40 (by decide) ?_
            refine ih4 _ _ ?_ ?_ ?_
            · first | omega | rfl | assumption | (simp_all [bo]; done)
            · first | (rw [lo, ← ha]; simp [c24, c32]; done) | (rw [lo, ← ha]; simp [c24]; done)
            · omega
  refine L4 _ 0 0 ?_ ?_ (Nat.lt_succ_self _)
  · first | omega | rfl | assumption | (simp_all [bo]; done)
  · rfl
/-- the k-th lacking pair behind r, from q on among m; what was seen before: n; the answer, or how many were seen -/
def p_lackQ (P : m_V) (k : Int32) (r : Nat) : Nat → Nat → Int32 → Int32 ⊕ Int32
  | _, 0, n => .inr n
  | q, m + 1, n => if (p_lackB P r >>> (nI q &&& 31)) &&& 1 = 1 then (if n = k then .inl (16 * nI r + nI q) else p_lackQ P k r (q + 1) m (n + 1)) else p_lackQ P k r (q + 1) m n
def p_lackR (P : m_V) (k : Int32) (nR : Nat) : Nat → Nat → Int32 → Int32
  | _, 0, _ => -1
  | r, m + 1, n => match p_lackQ P k r (r + 1) (nR - (r + 1)) n with
    | .inl x => x
    | .inr n' => p_lackR P k nR (r + 1) m n'
def p_lackingAt (P : m_V) (k : Int32) : Int32 := p_lackR P k (ct P 4) 0 (ct P 4) 0
theorem lackR_step {P : m_V} {k n : Int32} {r nR : Nat} (h : r < nR) : p_lackR P k nR r (nR - r) n = match p_lackQ P k r (r + 1) (nR - (r + 1)) n with | .inl x => x | .inr n' => p_lackR P k nR (r + 1) (nR - (r + 1)) n' := by
  rw [show nR - r = (nR - (r + 1)) + 1 by omega, p_lackR]
theorem lackQ_step {P : m_V} {k n : Int32} {r q nR : Nat} (h : q < nR) : p_lackQ P k r q (nR - q) n = if (p_lackB P r >>> (nI q &&& 31)) &&& 1 = 1 then (if n = k then .inl (16 * nI r + nI q) else p_lackQ P k r (q + 1) (nR - (q + 1)) (n + 1)) else p_lackQ P k r (q + 1) (nR - (q + 1)) n := by
  rw [show nR - q = (nR - (q + 1)) + 1 by omega, p_lackQ]
set_option maxRecDepth 100000 in
set_option maxHeartbeats 4000000 in
theorem c_X5_lackingAt (d : Nat) (h : m_H) (p : Nat) (P : m_V) (hp : isPlan h.2.2 p) (hP : blI h p 21 P) (hN : okP P) (k : Int32) : MC yX5_lackingAt cX5_lackingAt 6 (some .int) (d + 3) 0 0 [.ref p, .int k] h (m_r (.int (p_lackingAt P k)) h) := by
  obtain ⟨e4, g4⟩ := hN.2.2.2.2.1
  refine mc_of (by decide +kernel) (Nat.le_of_ble_eq_true rfl) ?_
  show MW (yX5_lackingAt.cls, cX5_lackingAt, 6, (some .int), yX5_lackingAt.name, d + 3, 0, 0) 0 (0, 0) [(0, .ref p), (1, .int k)] [] h _
  refine mw_iconst (v := 0) dX5_lackingAt_0 rfl ?_
  refine mw_istore_n [(2, .int 0), (0, .ref p), (1, .int k)] dX5_lackingAt_1 (Nat.le_of_ble_eq_true rfl) rfl ?_
  refine mw_iconst (v := 0) dX5_lackingAt_2 rfl ?_
  refine mw_istore_n [(3, .int 0), (2, .int 0), (0, .ref p), (1, .int k)] dX5_lackingAt_3 (Nat.le_of_ble_eq_true rfl) rfl ?_
  have L4 : ∀ (m4 : Nat) (i : Nat) (n : Int32), (i ≤ ct P 4) → (p_lackingAt P k = p_lackR P k (ct P 4) i (ct P 4 - i) n) → ct P 4 - i < m4 → MW (yX5_lackingAt.cls, cX5_lackingAt, 6, (some .int), yX5_lackingAt.name, d + 3, 0, 0) 4 (0, 0) [(3, .int (nI i)), (2, .int n), (0, .ref p), (1, .int k)] [] h (m_r (.int (p_lackingAt P k)) h) := by
    intro m4
    induction m4 with
    | zero => intro i n _ _ hm4; exact absurd hm4 (Nat.not_lt_zero _)
    | succ m4 ih4 =>
      intro i n hi ha hm4
      refine mw_iload_n 0 dX5_lackingAt_4 rfl ?_
      refine mw_aload_n 2 dX5_lackingAt_5 rfl ?_
      refine mw_getr 5 0 dX5_lackingAt_6 fl_X5_9 (by decide) (by decide) rfl (pl_o hp) (pl_r0 hp) ?_
      refine mw_iconst (v := 4) dX5_lackingAt_9 rfl ?_
      refine mw_iaN 4 dX5_lackingAt_10 (pl_a0 hp) (by decide) (by decide) (by decide) ?_
      refine mw_top (x' := (nI (ct P 4))) ((hP 1 4 (by decide)).trans e4) ?_
      refine mw_icmp_ge (tgt := 76) dX5_lackingAt_11 (by decide) (fun c => ?_) (fun c => ?_)
      · have c := (nI_leI (by omega) (by omega)).mp c
        refine mw_iconst (v := -1) dX5_lackingAt_76 rfl ?_
        refine mw_ireturn dX5_lackingAt_77 rfl rfl ⟨rfl, rfl⟩ ?_
        exact ⟨by rw [ha, show ct P 4 - i = 0 by omega]; rfl, rfl⟩
      · have c := mt (nI_leI (by omega) (by omega)).mpr c
        refine mw_aload_n 2 dX5_lackingAt_14 rfl ?_
        refine mw_iload_n 0 dX5_lackingAt_15 rfl ?_
        refine mw_cV (rest := []) [.int (nI i)] (c_X5_lackingBehind d h p P hp hP hN i (by omega)) mY_X5_lackingBehind dX5_lackingAt_16 ml_X5_105 (pl_o hp) rfl rfl (Nat.le_of_ble_eq_true rfl) ⟨Nat.le_refl _, Nat.le_refl _⟩ rfl ?_
        refine mw_istore [(4, .int (p_lackB P i)), (3, .int (nI i)), (2, .int n), (0, .ref p), (1, .int k)] dX5_lackingAt_19 (Nat.le_of_ble_eq_true rfl) rfl ?_
        refine mw_iload_n 1 dX5_lackingAt_21 rfl ?_
        refine mw_iconst (v := 1) dX5_lackingAt_22 rfl ?_
        refine mw_iadd dX5_lackingAt_23 ?_
        refine mw_top (x' := (nI (i + 1))) (nI_1 i) ?_
        refine mw_istore [(5, .int (nI (i + 1))), (4, .int (p_lackB P i)), (3, .int (nI i)), (2, .int n), (0, .ref p), (1, .int k)] dX5_lackingAt_24 (Nat.le_of_ble_eq_true rfl) rfl ?_
        have L26 : ∀ (m26 : Nat) (q : Nat) (n2 : Int32), (q ≤ ct P 4) → (p_lackQ P k i (i + 1) (ct P 4 - (i + 1)) n = p_lackQ P k i q (ct P 4 - q) n2) → ct P 4 - q < m26 → MW (yX5_lackingAt.cls, cX5_lackingAt, 6, (some .int), yX5_lackingAt.name, d + 3, 0, 0) 26 (0, 0) [(5, .int (nI q)), (4, .int (p_lackB P i)), (3, .int (nI i)), (2, .int n2), (0, .ref p), (1, .int k)] [] h (m_r (.int (p_lackingAt P k)) h) := by
          intro m26
          induction m26 with
          | zero => intro q n2 _ _ hm26; exact absurd hm26 (Nat.not_lt_zero _)
          | succ m26 ih26 =>
            intro q n2 hq hb hm26
            refine mw_iload 0 dX5_lackingAt_26 rfl ?_
            refine mw_aload_n 4 dX5_lackingAt_28 rfl ?_
            refine mw_getr 5 0 dX5_lackingAt_29 fl_X5_9 (by decide) (by decide) rfl (pl_o hp) (pl_r0 hp) ?_
            refine mw_iconst (v := 4) dX5_lackingAt_32 rfl ?_
            refine mw_iaN 4 dX5_lackingAt_33 (pl_a0 hp) (by decide) (by decide) (by decide) ?_
            refine mw_top (x' := (nI (ct P 4))) ((hP 1 4 (by decide)).trans e4) ?_
            refine mw_icmp_ge (tgt := 70) dX5_lackingAt_34 (by decide) (fun c2 => ?_) (fun c2 => ?_)
            · have c2 := (nI_leI (by omega) (by omega)).mp c2
              refine mw_iinc 2 (nI (i + 1)) [(3, .int (nI (i + 1))), (5, .int (nI q)), (4, .int (p_lackB P i)), (2, .int n2), (0, .ref p), (1, .int k)] dX5_lackingAt_70 rfl (nI_1 _) (Nat.le_of_ble_eq_true rfl) rfl ?_
              refine mw_goto (tgt := 4) dX5_lackingAt_73 (by decide) ?_
              refine mw_sub [0, 3, 4, 5] rfl ?_
              refine ih4 _ _ ?_ ?_ ?_
              · first | omega | rfl | assumption | (simp_all [bo]; done)
              · rw [ha, lackR_step (by omega), hb, show ct P 4 - q = 0 by omega]; rfl
              · omega
            · have c2 := mt (nI_leI (by omega) (by omega)).mpr c2
              refine mw_iload 1 dX5_lackingAt_37 rfl ?_
              refine mw_iload 0 dX5_lackingAt_39 rfl ?_
              refine mw_ishr dX5_lackingAt_41 ?_
              refine mw_iconst (v := 1) dX5_lackingAt_42 rfl ?_
              refine mw_iand dX5_lackingAt_43 ?_
              refine mw_iconst (v := 1) dX5_lackingAt_44 rfl ?_
              refine mw_icmp_ne (tgt := 64) dX5_lackingAt_45 (by decide) (fun c45 => ?_) (fun c45 => ?_)
              · refine mw_iinc 0 (nI (q + 1)) [(5, .int (nI (q + 1))), (4, .int (p_lackB P i)), (3, .int (nI i)), (2, .int n2), (0, .ref p), (1, .int k)] dX5_lackingAt_64 rfl (nI_1 _) (Nat.le_of_ble_eq_true rfl) rfl ?_
                refine mw_goto (tgt := 26) dX5_lackingAt_67 (by decide) ?_
                refine ih26 _ _ ?_ ?_ ?_
                · first | omega | rfl | assumption | (simp_all [bo]; done)
                · rw [hb, lackQ_step (by omega)]; simp_all
                · omega
              · refine mw_iload_n 3 dX5_lackingAt_48 rfl ?_
                refine mw_iload_n 5 dX5_lackingAt_49 rfl ?_
                refine mw_icmp_ne (tgt := 61) dX5_lackingAt_50 (by decide) (fun c50 => ?_) (fun c50 => ?_)
                · refine mw_iinc 3 (n2 + 1) [(2, .int (n2 + 1)), (5, .int (nI q)), (4, .int (p_lackB P i)), (3, .int (nI i)), (0, .ref p), (1, .int k)] dX5_lackingAt_61 rfl rfl (Nat.le_of_ble_eq_true rfl) rfl ?_
                  refine mw_iinc 1 (nI (q + 1)) [(5, .int (nI (q + 1))), (2, .int (n2 + 1)), (4, .int (p_lackB P i)), (3, .int (nI i)), (0, .ref p), (1, .int k)] dX5_lackingAt_64 rfl (nI_1 _) (Nat.le_of_ble_eq_true rfl) rfl ?_
                  refine mw_goto (tgt := 26) dX5_lackingAt_67 (by decide) ?_
                  refine mw_sub [0, 2, 3, 1, 4, 5] rfl ?_
                  refine ih26 _ _ ?_ ?_ ?_
                  · first | omega | rfl | assumption | (simp_all [bo]; done)
                  · rw [hb, lackQ_step (by omega)]; simp_all
                  · omega
                · refine mw_bipush (v := 16) dX5_lackingAt_53 (by decide) ?_
                  refine mw_iload_n 2 dX5_lackingAt_55 rfl ?_
                  refine mw_imul dX5_lackingAt_56 ?_
                  refine mw_iload 0 dX5_lackingAt_57 rfl ?_
                  refine mw_iadd dX5_lackingAt_59 ?_
                  refine mw_ireturn dX5_lackingAt_60 rfl rfl ⟨rfl, rfl⟩ ?_
                  exact ⟨by rw [ha, lackR_step (by omega), hb, lackQ_step (by omega)]; simp_all, rfl⟩
        refine L26 _ (i + 1) n ?_ ?_ (Nat.lt_succ_self _)
        · first | omega | rfl | assumption | (simp_all [bo]; done)
        · rfl
  refine L4 _ 0 0 ?_ ?_ (Nat.lt_succ_self _)
  · first | omega | rfl | assumption | (simp_all [bo]; done)
  · rfl
