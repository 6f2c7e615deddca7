def t_nextS (S : m_TX) : m_TX := (t_nextV S.1 S.2, t_nextL S.1 S.2)
def t_wrongS (S : m_TX) (w : Int32) : m_TX := (t_wrong S.1 w, S.2)
def t_nameS (P : m_V) (N : m_L) (S : m_TX) (s : Nat) : m_TX := (t_nameV P N S.1 S.2 s, S.2)
def t_nameI (P : m_V) (N : m_L) (S : m_TX) (s : Nat) : Int32 := t_name P N S.1 S.2 s
def t_newS (P : m_V) (N : m_L) (S : m_TX) : m_TX := (t_newV P N S.1 S.2, S.2)
def t_newI (P : m_V) (N : m_L) (S : m_TX) : Int32 := b2 (t_new P N S.1 S.2)
def t_numS (S : m_TX) (a b : Int32) : m_TX := (t_numV S.1 a b, S.2)
def t_twoS (S : m_TX) (w : Int32) : m_TX := (t_twoV S.1 w, S.2)
theorem ok_next {S : m_TX} (h : okT S.1) : okT (t_nextS S).1 := okT_next h S.2
theorem ok_wrong {S : m_TX} (h : okT S.1) (w : Int32) : okT (t_wrongS S w).1 := h
theorem ok_name {P : m_V} {N : m_L} {S : m_TX} {s : Nat} (h : okT S.1) : okT (t_nameS P N S s).1 := by
  show okT (t_nameV P N S.1 S.2 s)
  unfold t_nameV
  repeat (first | exact h | split)
theorem ok_new {P : m_V} {N : m_L} {S : m_TX} (h : okT S.1) : okT (t_newS P N S).1 := by
  show okT (t_newV P N S.1 S.2)
  unfold t_newV
  repeat (first | exact h | split)
theorem ok_num {S : m_TX} {a b : Int32} (h : okT S.1) : okT (t_numS S a b).1 := by
  show okT (t_numV S.1 a b)
  unfold t_numV
  repeat (first | exact h | split)
theorem ok_two {S : m_TX} {w : Int32} (h : okT S.1) : okT (t_twoS S w).1 := by
  show okT (t_twoV S.1 w)
  unfold t_twoV
  repeat (first | exact h | split)
abbrev m_RS : Type := Int32 × m_TX × m_V × m_L × m_V
theorem cs_wrong (d : Nat) (h : m_H) (S : m_TX) (hx : isText h.2.2) (hT : blI h 1 3 S.1) (hX : blJ h 1 3 S.2) (w : Int32) : MC yX10_wrong cX10_wrong 2 (some .boolean) (d + 1) 0 0 [.ref 1, .int w] h (m_r (.int 0) (m_bk h 1 3 (t_wrongS S w).1 (t_wrongS S w).2)) := c_X10_wrong d h S.1 S.2 hx hT hX w
theorem cs_next (d : Nat) (h : m_H) (S : m_TX) (hx : isText h.2.2) (hT : blI h 1 3 S.1) (hX : blJ h 1 3 S.2) (ok : okT S.1) : MC yX10_next cX10_next 1 none (d + 3) 0 0 [.ref 1] h (m_rn (m_bk h 1 3 (t_nextS S).1 (t_nextS S).2)) := c_X10_next d h S.1 S.2 hx hT hX ok
theorem cs_named (d : Nat) (h : m_H) (S : m_TX) (hx : isText h.2.2) (hT : blI h 1 3 S.1) (hX : blJ h 1 3 S.2) (p : Nat) (P : m_V) (N : m_L) (hp : isPlan h.2.2 p) (hP : blI h p 21 P) (hN : blJ h p 21 N) (hd : 1 + 3 ≤ p) (s n : Nat) (hs : s < 8) (hn : P 1 s = nI n) (hn12 : n ≤ 12) : MC yX10_named cX10_named 4 (some .int) (d + 2) 0 0 [.ref 1, .ref p, .int (nI s)] h (m_r (.int (t_nameI P N S s)) (m_bk h 1 3 (t_nameS P N S s).1 (t_nameS P N S s).2)) := c_X10_named d h S.1 S.2 hx hT hX p P N hp hP hN hd s n hs hn hn12
theorem cs_nextNamed (d : Nat) (h : m_H) (S : m_TX) (hx : isText h.2.2) (hT : blI h 1 3 S.1) (hX : blJ h 1 3 S.2) (p : Nat) (P : m_V) (N : m_L) (hp : isPlan h.2.2 p) (hP : blI h p 21 P) (hN : blJ h p 21 N) (hd : 1 + 3 ≤ p) (s n : Nat) (hs : s < 8) (hn : P 1 s = nI n) (hn12 : n ≤ 12) (ok : okT S.1) : MC yX10_nextNamed cX10_nextNamed 3 (some .int) (d + 4) 0 0 [.ref 1, .ref p, .int (nI s)] h (m_r (.int (t_nameI P N (t_nextS S) s)) (m_bk h 1 3 (t_nameS P N (t_nextS S) s).1 (t_nameS P N (t_nextS S) s).2)) := c_X10_nextNamed d h S.1 S.2 hx hT hX p P N hp hP hN hd s n hs hn hn12 ok
theorem cs_nextNewName (d : Nat) (h : m_H) (S : m_TX) (hx : isText h.2.2) (hT : blI h 1 3 S.1) (hX : blJ h 1 3 S.2) (p : Nat) (P : m_V) (N : m_L) (hp : isPlan h.2.2 p) (hP : blI h p 21 P) (hN : blJ h p 21 N) (hd : 1 + 3 ≤ p) (hok : okP P) (ok : okT S.1) : MC yX10_nextNewName cX10_nextNewName 2 (some .boolean) (d + 4) 0 0 [.ref 1, .ref p] h (m_r (.int (t_newI P N (t_nextS S))) (m_bk h 1 3 (t_newS P N (t_nextS S)).1 (t_newS P N (t_nextS S)).2)) := c_X10_nextNewName d h S.1 S.2 hx hT hX p P N hp hP hN hd hok ok
theorem cs_nextNumber (d : Nat) (h : m_H) (S : m_TX) (hx : isText h.2.2) (hT : blI h 1 3 S.1) (hX : blJ h 1 3 S.2) (a b : Int32) (ok : okT S.1) : MC yX10_nextNumber cX10_nextNumber 3 (some .int) (d + 4) 0 0 [.ref 1, .int a, .int b] h (m_r (.int (t_num (t_nextS S).1 a b)) (m_bk h 1 3 (t_numS (t_nextS S) a b).1 (t_numS (t_nextS S) a b).2)) := c_X10_nextNumber d h S.1 S.2 hx hT hX a b ok
theorem cs_nextOfTwo (d : Nat) (h : m_H) (S : m_TX) (hx : isText h.2.2) (hT : blI h 1 3 S.1) (hX : blJ h 1 3 S.2) (w : Int32) (ok : okT S.1) : MC yX10_nextOfTwo cX10_nextOfTwo 2 (some .int) (d + 4) 0 0 [.ref 1, .int w] h (m_r (.int (t_two (t_nextS S).1 w)) (m_bk h 1 3 (t_twoS (t_nextS S) w).1 (t_twoS (t_nextS S) w).2)) := c_X10_nextOfTwo d h S.1 S.2 hx hT hX w ok
def r_hasRoom (S : m_TX) (D : m_V) (N : m_L) (R : m_V) (s : Nat) (m : Int32) : m_RS := (if (D 1 s) < m then ((1 : Int32), S, D, N, R) else ((0 : Int32), (t_wrongS S 4), D, N, R))
set_option maxRecDepth 100000 in
set_option maxHeartbeats 4000000 in
theorem c_X6_hasRoom (d : Nat) (h : m_H) (S : m_TX) (D : m_V) (N : m_L) (R : m_V) (RL : m_L) (hx : isText h.2.2) (hr : isRead h.2.2) (hp : isPlan h.2.2 26) (hT : blI h 1 3 S.1) (hX : blJ h 1 3 S.2) (hD : blI h 26 21 D) (hDN : blJ h 26 21 N) (hR : blI h 25 1 R) (hRL : blJ h 25 1 RL) (hN : okP D) (ok : okT S.1) (s : Nat) (m : Int32) (hs : s < 8) : MC yX6_hasRoom cX6_hasRoom 4 (some .boolean) (d + 2) 0 0 [.ref 25, .ref 1, .int (nI s), .int m] h (m_r (.int (r_hasRoom S D N R s m).1) (m_bk (m_bk (m_bk h 1 3 (r_hasRoom S D N R s m).2.1.1 (r_hasRoom S D N R s m).2.1.2) 25 1 (r_hasRoom S D N R s m).2.2.2.2 RL) 26 21 (r_hasRoom S D N R s m).2.2.1 (r_hasRoom S D N R s m).2.2.2.1)) := by
  refine mc_of (by decide +kernel) (Nat.le_of_ble_eq_true rfl) ?_
  show MW (yX6_hasRoom.cls, cX6_hasRoom, 4, (some .boolean), yX6_hasRoom.name, d + 2, 0, 0) 0 (0, 0) [(0, .ref 25), (1, .ref 1), (2, .int (nI s)), (3, .int m)] [] h _
  refine mw_hp (bk_self (n := 3) hT hX) ?_
  refine mw_hp (bk_self (n := 1) (bk_O hR (by decide)) (bk_OJ hRL (by decide))) ?_
  refine mw_hp (bk_self (n := 21) (bk_O (bk_O hD (by decide)) (by decide)) (bk_OJ (bk_OJ hDN (by decide)) (by decide))) ?_
  refine mw_aload_n 0 dX6_hasRoom_0 rfl ?_
  refine mw_getr 6 0 dX6_hasRoom_1 fl_X6_12 (by decide) (by decide) rfl (rd_o hr) (rd_r0 hr) ?_
  refine mw_getr 5 0 dX6_hasRoom_4 fl_X6_86 (by decide) (by decide) rfl (pl_o hp) (pl_r0 hp) ?_
  refine mw_iload_n 2 dX6_hasRoom_7 rfl ?_
  refine mw_iaN s dX6_hasRoom_8 (pl_a0 hp) (by omega) (by decide) rfl ?_
  refine mw_top (x' := (D 1 s)) (bk_I 1 s (by decide)) ?_
  refine mw_iload_n 3 dX6_hasRoom_9 rfl ?_
  refine mw_icmp_lt (tgt := 21) dX6_hasRoom_10 (by decide) (fun c10 => ?_) (fun c10 => ?_)
  · refine mw_iconst (v := 1) dX6_hasRoom_21 rfl ?_
    refine mw_goto (tgt := 26) dX6_hasRoom_22 (by decide) ?_
    refine mw_ireturn dX6_hasRoom_26 rfl rfl ⟨rfl, rfl⟩ ?_
    have e : r_hasRoom S D N R s m = ((1 : Int32), S, D, N, R) := by rw [r_hasRoom, if_pos c10]
    exact ⟨by rw [e], by rw [e]⟩
  · refine mw_aload_n 1 dX6_hasRoom_13 rfl ?_
    refine mw_iconst (v := 4) dX6_hasRoom_14 rfl ?_
    refine mw_cV (rest := []) [.int 4] (cs_wrong d (m_bk (m_bk (m_bk h 1 3 S.1 S.2) 25 1 R RL) 26 21 D N) S hx (bk_O (bk_O bk_I (by decide)) (by decide)) (bk_OJ (bk_OJ bk_J (by decide)) (by decide)) 4) mY_X10_wrong dX6_hasRoom_15 ml_X6_82 (tx_o hx) rfl rfl (Nat.le_of_ble_eq_true rfl) ⟨Nat.le_refl _, Nat.le_refl _⟩ rfl ?_
    refine mw_hp ((bk_cm (by decide)).trans (congrArg (fun z => m_bk z 26 21 D N) ((bk_cm (by decide)).trans (congrArg (fun z => m_bk z 25 1 R RL) bk_bk)))) ?_
    refine mw_if_eq (tgt := 25) dX6_hasRoom_18 (by decide) (fun c18 => ?_) (fun c18 => ?_)
    · refine mw_iconst (v := 0) dX6_hasRoom_25 rfl ?_
      refine mw_ireturn dX6_hasRoom_26 rfl rfl ⟨rfl, rfl⟩ ?_
      have e : r_hasRoom S D N R s m = ((0 : Int32), (t_wrongS S 4), D, N, R) := by rw [r_hasRoom, if_neg c10]
      exact ⟨by rw [e], by rw [e]⟩
    · exact absurd rfl c18
theorem room_eq {S : m_TX} {D : m_V} {N : m_L} {R : m_V} {s : Nat} {m : Int32} : (r_hasRoom S D N R s m).2.2.1 = D ∧ (r_hasRoom S D N R s m).2.2.2.1 = N ∧ (r_hasRoom S D N R s m).2.2.2.2 = R := by
  unfold r_hasRoom
  split <;> exact ⟨rfl, rfl, rfl⟩
theorem ok_room {S : m_TX} {D : m_V} {N : m_L} {R : m_V} {s : Nat} {m : Int32} (h : okT S.1) : okT (r_hasRoom S D N R s m).2.1.1 := by
  unfold r_hasRoom
  split <;> exact h
theorem room_heap {h : m_H} {S : m_TX} {D : m_V} {N : m_L} {R : m_V} {RL : m_L} {s : Nat} {m : Int32} : m_bk (m_bk (m_bk (m_bk (m_bk (m_bk h 1 3 S.1 S.2) 25 1 R RL) 26 21 D N) 1 3 (r_hasRoom S D N R s m).2.1.1 (r_hasRoom S D N R s m).2.1.2) 25 1 (r_hasRoom S D N R s m).2.2.2.2 RL) 26 21 (r_hasRoom S D N R s m).2.2.1 (r_hasRoom S D N R s m).2.2.2.1 = m_bk (m_bk (m_bk h 1 3 (r_hasRoom S D N R s m).2.1.1 (r_hasRoom S D N R s m).2.1.2) 25 1 R RL) 26 21 D N := by
  obtain ⟨e1, e2, e3⟩ := room_eq (S := S) (D := D) (N := N) (R := R) (s := s) (m := m)
  rw [e1, e2, e3]
  rw [bk_cm (h := m_bk (m_bk h 1 3 S.1 S.2) 25 1 R RL) (b := 26) (p := 1) (by decide), bk_cm (h := m_bk h 1 3 S.1 S.2) (b := 25) (p := 1) (by decide), bk_bk (h := h) (b := 1), bk_cm (h := m_bk (m_bk h 1 3 _ _) 25 1 R RL) (b := 26) (p := 25) (by decide), bk_bk (b := 25), bk_bk (b := 26)]

set_option maxRecDepth 100000 in
set_option maxHeartbeats 4000000 in
theorem c_X6_goOn (d : Nat) (h : m_H) (S : m_TX) (hx : isText h.2.2) (hT : blI h 1 3 S.1) (hX : blJ h 1 3 S.2) (ok : okT S.1) : MC yX6_goOn cX6_goOn 1 (some .boolean) (d + 4) 0 0 [.ref 1] h (m_r (.int 1) (m_bk h 1 3 (t_nextS S).1 (t_nextS S).2)) := by
  refine mc_of (by decide +kernel) (Nat.le_of_ble_eq_true rfl) ?_
  show MW (yX6_goOn.cls, cX6_goOn, 1, (some .boolean), yX6_goOn.name, d + 4, 0, 0) 0 (0, 0) [(0, .ref 1)] [] h _
  refine mw_hp (bk_self (n := 3) hT hX) ?_
  refine mw_aload_n 0 dX6_goOn_0 rfl ?_
  refine mw_cVv (rest := []) [] (cs_next d (m_bk h 1 3 S.1 S.2) S hx bk_I bk_J ok) mY_X10_next dX6_goOn_1 ml_X6_35 (tx_o hx) rfl rfl (Nat.le_of_ble_eq_true rfl) ⟨Nat.le_refl _, Nat.le_refl _⟩ rfl ?_
  refine mw_hp bk_bk ?_
  refine mw_iconst (v := 1) dX6_goOn_4 rfl ?_
  refine mw_ireturn dX6_goOn_5 rfl rfl ⟨rfl, rfl⟩ ?_
  exact ⟨rfl, rfl⟩
