/-! literals: length and charAt, by the JDK's own bytes -/
section STR
variable {K : m_K} {pc : Nat} {z : Nat × Nat} {lv : List (Nat × Value)} {rest : List Value} {h : m_H} {Q : Option Value → m_H → Prop}
theorem m_vs (G : m_G) {k : Nat} (hk : 1000000 ≤ k) : m_v G (.ref k) = .ref (G.2.2.2 k) := by
  show Value.ref (m_ad G k) = _
  unfold m_ad
  rw [if_neg (by omega)]
theorem m_sts (G : m_G) {k : Nat} (hk : 1000000 ≤ k) : m_st G (.ref k :: rest) = .ref (G.2.2.2 k) :: m_st G rest := by
  show m_v G (.ref k) :: _ = _
  rw [m_vs G hk]; rfl
/-- a literal -/
theorem mw_ldcS {ix k : Nat} {tx : String} (hd : decode K.2.1 pc = .ok (.ldc ix, 2)) (hw : (K.1, ix, tx, k) ∈ m_strs) (hk : 1000000 ≤ k) (kk : MW K (pc + 2) z lv (.ref k :: rest) h Q) : MW K pc z lv rest h Q :=
  mw_lift (fun p l e R s m args below meth c G H locs cells slots Z ls hC hl kk => va_ldcS hC.1 hC.2.1 hC.2.2.2.1 (hC.2.2.2.2.2.1.2.2.2.2.1 _ hw) hd (by rw [m_sts G hk] at kk; exact kk)) kk
theorem mw_strV {ix i : Nat} (hd : decode K.2.1 pc = .ok (.getfield ix, 3)) (hl : Cond.fieldLink K.1 ix "java/lang/String" "value" "[B" ∈ m_tb) (hi : i < 8) (kk : MW K (pc + 3) z lv (.ref (1100000 + i) :: rest) h Q) : MW K pc z lv (.ref (1000000 + i) :: rest) h Q := by
  intro p l e s m args below meth c G H locs ls n0 hC hI hS hlv hz hn
  have hk := kk p l e s m args below meth c G H locs ls n0 hC hI hS hlv hz hn
  rw [m_sts G (by omega)] at hk ⊢
  exact vk_getf hC.1 hC.2.1 (hC.2.2.2.2.2.1.2.2.2.2.2.1.1.1 i hi).2.2.1 hS hC.2.2.2.1 (hC.2.2.2.2.1 _ hl) (fun x hx => hx) hd hk
theorem mw_strC {ix i : Nat} (hd : decode K.2.1 pc = .ok (.getfield ix, 3)) (hl : Cond.fieldLink K.1 ix "java/lang/String" "coder" "B" ∈ m_tb) (hi : i < 8) (kk : MW K (pc + 3) z lv (.int 0 :: rest) h Q) : MW K pc z lv (.ref (1000000 + i) :: rest) h Q := by
  intro p l e s m args below meth c G H locs ls n0 hC hI hS hlv hz hn
  have hk := kk p l e s m args below meth c G H locs ls n0 hC hI hS hlv hz hn
  rw [m_sts G (by omega)]
  exact vk_getf hC.1 hC.2.1 (hC.2.2.2.2.2.1.2.2.2.2.2.1.1.1 i hi).2.1 hS hC.2.2.2.1 (hC.2.2.2.2.1 _ hl) (fun x hx => hx) hd hk
theorem mw_strL {i : Nat} (hd : decode K.2.1 pc = .ok (.arraylength, 1)) (hi : i < 8) (kk : MW K (pc + 1) z lv (.int (nI (m_len.getD i 0)) :: rest) h Q) : MW K pc z lv (.ref (1100000 + i) :: rest) h Q := by
  intro p l e s m args below meth c G H locs ls n0 hC hI hS hlv hz hn
  have hk := kk p l e s m args below meth c G H locs ls n0 hC hI hS hlv hz hn
  rw [m_sts G (by omega)]
  exact va_tlen hC.1 hC.2.1 (hC.2.2.2.2.2.1.2.2.2.2.2.1.1.1 i hi).2.2.2 hS rfl hd hk
theorem mw_strB {i : Nat} {j : Int32} (hd : decode K.2.1 pc = .ok (.baload, 1)) (hi : i < 8) (hj : vp_in j (m_len.getD i 0)) (kk : MW K (pc + 1) z lv (.int ((m_byt.getD i []).getD j.toNatClampNeg 0) :: rest) h Q) : MW K pc z lv (.int j :: .ref (1100000 + i) :: rest) h Q := by
  intro p l e s m args below meth c G H locs ls n0 hC hI hS hlv hz hn
  have hk := kk p l e s m args below meth c G H locs ls n0 hC hI hS hlv hz hn
  have e : m_st G (.int j :: .ref (1100000 + i) :: rest) = .int j :: .ref (G.2.2.2 (1100000 + i)) :: m_st G rest := by
    show m_v G (.int j) :: m_st G (.ref (1100000 + i) :: rest) = _
    rw [m_sts G (by omega)]; rfl
  rw [e]
  exact va_tb hC.1 hC.2.1 (hC.2.2.2.2.2.1.2.2.2.2.2.1.1.1 i hi).2.2.2 hS hj rfl hd hk
theorem mw_strZ {ix : Nat} (hd : decode K.2.1 pc = .ok (.getstatic ix, 3)) (hl : Cond.fieldLink K.1 ix "java/lang/String" "COMPACT_STRINGS" "Z" ∈ m_tb) (kk : MW K (pc + 3) z lv (.int 1 :: rest) h Q) : MW K pc z lv rest h Q := by
  intro p l e s m args below meth c G H locs ls n0 hC hI hS hlv hz hn
  have hk := kk p l e s m args below meth c G H locs ls n0 hC hI hS hlv hz hn
  exact va_gets hC.1 hC.2.1 hC.2.2.2.2.2.1.2.2.2.2.2.2 hS hC.2.2.2.1 (hC.2.2.2.2.1 _ hl) (fun x hx => hx) hd hk
theorem mw_strF {ix : Nat} (hd : decode K.2.1 pc = .ok (.getstatic ix, 3)) (hl : Cond.fieldLink K.1 ix "jdk/internal/util/Preconditions" "SIOOBE_FORMATTER" "Ljava/util/function/BiFunction;" ∈ m_tb) (kk : ∀ v : Value, v = .null ∨ v = .ref 1200000 → MW K (pc + 3) z lv (v :: rest) h Q) : MW K pc z lv rest h Q := by
  intro p l e s m args below meth c G H locs ls n0 hC hI hS hlv hz hn
  rcases hC.2.2.2.2.2.1.2.2.2.2.2.1.2 with hF | hF
  · have hk := kk .null (Or.inl rfl) p l e s m args below meth c G H locs ls n0 hC hI hS hlv hz hn
    have e : m_st G (Value.null :: rest) = Value.null :: m_st G rest := rfl
    rw [e] at hk
    exact va_gets hC.1 hC.2.1 hF hS hC.2.2.2.1 (hC.2.2.2.2.1 _ hl) (fun x hx => hx) hd hk
  · have hk := kk (.ref 1200000) (Or.inr rfl) p l e s m args below meth c G H locs ls n0 hC hI hS hlv hz hn
    rw [m_sts G (by omega)] at hk
    exact va_gets hC.1 hC.2.1 hF hS hC.2.2.2.1 (hC.2.2.2.2.1 _ hl) (fun x hx => hx) hd hk
variable {y : MethodName} {cc : ByteArray} {nL : Nat} {ret : Option FieldType} {n d : Nat} {Q' : Option Value → m_H → Prop} {idx : Nat} {As : List Value} {b : Nat}
theorem mw_strCall {i : Nat} (hi : i < 8) (hM : MC y cc nL ret d 0 0 (.ref (1000000 + i) :: As) h Q') (hy : m_Y y cc nL ret n ∧ Cond.instanceMethod y ∈ m_tb ∧ Cond.selects y.cls y y ∈ m_tb ∧ y.cls = "java/lang/String") (hd : decode K.2.1 pc = .ok (.invokevirtual idx, 3)) (hl : Cond.methodLink K.1 idx y ∈ m_tb) (hdep : K.2.2.2.2.2.1 = d + 1) (hnA : As.length = n) (hw : (rest.map fun v => v.category).sum ≤ 8) (hc : z.1 ≤ K.2.2.2.2.2.2.1 ∧ z.2 ≤ K.2.2.2.2.2.2.2)
    (kk : ∀ (r : Option Value) (h' : m_H), Q' r h' → MW K (pc + 3) z lv (r.toList ++ rest) h' Q) : MW K pc z lv (As.reverse ++ .ref (1000000 + i) :: rest) h Q := by
  intro p l e s m args below meth c G H locs ls n0 hC hI hS hlv hz hn
  refine m_sz hI hS hz hn (fun hsz => ?_)
  have hst : m_st G (As.reverse ++ .ref (1000000 + i) :: rest) = (As.map (m_v G)).reverse ++ .ref (G.2.2.2 (1000000 + i)) :: m_st G rest := by
    rw [← m_sts G (by omega)]
    simp [m_st]
  rw [hst]
  have hcw : (m_st G rest).map (fun v => v.category) = rest.map (fun v => v.category) := by simp [m_st, Function.comp_def, m_cat]
  have hargs : (Value.ref (G.2.2.2 (1000000 + i)) :: As.map (m_v G)) = ((Value.ref (1000000 + i) :: As).map (m_v G)) := by rw [List.map_cons, m_vs G (by omega)]
  refine m_after (z := z) (h := h) (Q' := Q') (mc := 0) (ms := 0) (va_runV (C := y.cls) (n := n) (As := As.map (m_v G)) (b := G.2.2.2 (1000000 + i)) (rest := m_st G rest) ⟨hC.1, hC.2.1, hC.2.2.1, hC.2.2.2.1, hC.2.2.2.2.1⟩ (hM l G)
      ⟨m_callB hy.1 hC.2.2.2.2.1 hl (by rw [hdep]; simp only [m_R]; have := hy.1.2.2.2; omega), hC.2.2.2.2.1 _ hy.2.1, hC.2.2.2.2.1 _ hy.2.2.1⟩ ⟨m_blind G _ h _, ?_, ?_⟩ rfl (by simp [hnA]) hlv.1 rfl ?_ hd hc) hS (fun r h' H1 locs1 hq hI1 hS1 hn1 => kk r h' hq p l e s m args below meth c G H1 locs1 ls n0 hC hI1 hS1 hlv hz (by rw [hn1, hn]; omega))
  · rw [hy.2.2.2]
    exact vk_recv (adK := fun i => G.2.2.2 (1000000 + i)) (i := i) hC.2.2.2.2.2.1.2.2.2.2.2.1.1 hi hS
  · rw [hargs]
    exact m_pre hC.2.2.2.2.2.1 hI hS (fun h0 => hsz (by omega)) hC.2.2.2.2.2.2.2.2.2
  · exact lv_room (by rw [hcw]; exact hw)
theorem mw_cStr {v : Value} {h1 : m_H} {i : Nat} (As : List Value) (hi : i < 8) (hM : MC y cc nL ret d 0 0 (.ref (1000000 + i) :: As) h (m_r v h1)) (hy : m_Y y cc nL ret n ∧ Cond.instanceMethod y ∈ m_tb ∧ Cond.selects y.cls y y ∈ m_tb ∧ y.cls = "java/lang/String") (hd : decode K.2.1 pc = .ok (.invokevirtual idx, 3)) (hl : Cond.methodLink K.1 idx y ∈ m_tb) (hdep : K.2.2.2.2.2.1 = d + 1) (hnA : As.length = n) (hw : (rest.map fun v => v.category).sum ≤ 8) (hc : z.1 ≤ K.2.2.2.2.2.2.1 ∧ z.2 ≤ K.2.2.2.2.2.2.2)
    {st : List Value} (hst : st = As.reverse ++ .ref (1000000 + i) :: rest) (kk : MW K (pc + 3) z lv (v :: rest) h1 Q) : MW K pc z lv st h Q := by
  subst hst
  exact mw_strCall hi hM hy hd hl hdep hnA hw hc (fun r h' hq => by obtain ⟨rfl, rfl⟩ := hq; exact kk)
theorem mw_i2c {x v : Int32} (hd : decode K.2.1 pc = .ok (.i2c, 1)) (hv : (x.toUInt32 % 65536).toInt32 = v) (k : MW K (pc + 1) z lv (.int v :: rest) h Q) : MW K pc z lv (.int x :: rest) h Q := mw_lift (fun p l e R s m args below meth c G H locs cells slots Z ls hC hl kk => lv_i2c hC.1 hC.2.1 hd hv kk) k
end STR
def sC (i k : Nat) : Int32 := (m_byt.getD i []).getD k 0
set_option maxRecDepth 100000 in
theorem sC_c : ∀ i, i < 8 → ∀ k, k < m_len.getD i 0 → ((sC i k &&& 255).toUInt32 % 65536).toInt32 = sC i k ∧ narrow .char (.int (sC i k)) = .int (sC i k) := by decide +kernel
set_option maxRecDepth 100000 in
theorem sC_l : ∀ i, i < 8 → nI (m_len.getD i 0) >>> ((0 : Int32) &&& 31) = nI (m_len.getD i 0) ∧ m_len.getD i 0 < 1000 := by decide +kernel
set_option maxRecDepth 100000 in
theorem mY_J0_length : m_Y yJ0_length_8abf5 cJ0_length_8abf5 1 (some .int) 0 ∧ Cond.instanceMethod yJ0_length_8abf5 ∈ m_tb ∧ Cond.selects yJ0_length_8abf5.cls yJ0_length_8abf5 yJ0_length_8abf5 ∈ m_tb ∧ yJ0_length_8abf5.cls = "java/lang/String" := ⟨⟨m_t1 47 rfl rfl, m_t1 3 rfl rfl, ⟨by decide +kernel, by decide +kernel, by decide +kernel⟩, by decide⟩, m_t1 45 rfl rfl, m_t1 46 rfl rfl, rfl⟩
set_option maxRecDepth 100000 in
theorem mY_J0_coder : m_Y yJ0_coder_7d493 cJ0_coder_7d493 1 (some .byte) 0 ∧ Cond.instanceMethod yJ0_coder_7d493 ∈ m_tb ∧ Cond.selects yJ0_coder_7d493.cls yJ0_coder_7d493 yJ0_coder_7d493 ∈ m_tb ∧ yJ0_coder_7d493.cls = "java/lang/String" := ⟨⟨m_t1 51 rfl rfl, m_t1 3 rfl rfl, ⟨by decide +kernel, by decide +kernel, by decide +kernel⟩, by decide⟩, m_t1 49 rfl rfl, m_t1 50 rfl rfl, rfl⟩
set_option maxRecDepth 100000 in
theorem mY_J0_charAt : m_Y yJ0_charAt_5068e cJ0_charAt_5068e 2 (some .char) 1 ∧ Cond.instanceMethod yJ0_charAt_5068e ∈ m_tb ∧ Cond.selects yJ0_charAt_5068e.cls yJ0_charAt_5068e yJ0_charAt_5068e ∈ m_tb ∧ yJ0_charAt_5068e.cls = "java/lang/String" := ⟨⟨m_t1 57 rfl rfl, m_t1 3 rfl rfl, ⟨by decide +kernel, by decide +kernel, by decide +kernel⟩, by decide⟩, m_t1 55 rfl rfl, m_t1 56 rfl rfl, rfl⟩
set_option maxRecDepth 100000 in
theorem mY_J0_isLatin1 : m_Y yJ0_isLatin1_aae02 cJ0_isLatin1_aae02 1 (some .boolean) 0 ∧ Cond.instanceMethod yJ0_isLatin1_aae02 ∈ m_tb ∧ Cond.selects yJ0_isLatin1_aae02.cls yJ0_isLatin1_aae02 yJ0_isLatin1_aae02 ∈ m_tb ∧ yJ0_isLatin1_aae02.cls = "java/lang/String" := ⟨⟨m_t1 61 rfl rfl, m_t1 3 rfl rfl, ⟨by decide +kernel, by decide +kernel, by decide +kernel⟩, by decide⟩, m_t1 59 rfl rfl, m_t1 60 rfl rfl, rfl⟩
set_option maxRecDepth 100000 in
theorem sx_0 {k : Nat} (hk : k < 2 ^ 31) : ¬ nI k < 0 := fun z => absurd ((nI_ltI (b := 0) hk (by decide)).mp z) (Nat.not_lt_zero k)
set_option maxRecDepth 100000 in
theorem sx_lt {k n : Nat} (h : k < n) (hn : n < 2 ^ 31) : nI k < nI n := (nI_ltI (Nat.lt_trans h hn) hn).mpr h
set_option maxRecDepth 100000 in
theorem sx_in {k n : Nat} (h : k < n) (hn : n < 2 ^ 31) : vp_in (nI k) n := by
  rintro (z | z)
  · exact sx_0 (Nat.lt_trans h hn) z
  · rw [nI_clamp (Nat.lt_trans h hn)] at z; omega
set_option maxRecDepth 100000 in
theorem c_J0_coder (d : Nat) (h : m_H) {i : Nat} (hi : i < 8) : MC yJ0_coder_7d493 cJ0_coder_7d493 1 (some .byte) (d + 1) 0 0 [.ref (1000000 + i)] h (m_r (.int 0) h) := by
  refine mc_of (by decide +kernel) (Nat.le_of_ble_eq_true rfl) ?_
  show MW (yJ0_coder_7d493.cls, cJ0_coder_7d493, 1, (some .byte), yJ0_coder_7d493.name, d + 1, 0, 0) 0 (0, 0) [(0, .ref (1000000 + i))] [] h _
  refine mw_strZ dJ0_coder_7d493_0 (m_t1 52 rfl rfl) ?_
  refine mw_if_eq (tgt := 13) dJ0_coder_7d493_3 (by decide) (fun q => absurd q (by decide)) (fun _ => ?_)
  refine mw_aload_n 0 dJ0_coder_7d493_6 rfl ?_
  refine mw_strC dJ0_coder_7d493_7 (m_t1 2221 rfl rfl) hi ?_
  refine mw_goto (tgt := 14) dJ0_coder_7d493_10 (by decide) ?_
  exact mw_ireturn dJ0_coder_7d493_14 rfl rfl ⟨rfl, rfl⟩ ⟨rfl, rfl⟩
set_option maxRecDepth 100000 in
theorem c_J0_isLatin1 (d : Nat) (h : m_H) {i : Nat} (hi : i < 8) : MC yJ0_isLatin1_aae02 cJ0_isLatin1_aae02 1 (some .boolean) (d + 1) 0 0 [.ref (1000000 + i)] h (m_r (.int 1) h) := by
  refine mc_of (by decide +kernel) (Nat.le_of_ble_eq_true rfl) ?_
  show MW (yJ0_isLatin1_aae02.cls, cJ0_isLatin1_aae02, 1, (some .boolean), yJ0_isLatin1_aae02.name, d + 1, 0, 0) 0 (0, 0) [(0, .ref (1000000 + i))] [] h _
  refine mw_strZ dJ0_isLatin1_aae02_0 (m_t1 52 rfl rfl) ?_
  refine mw_if_eq (tgt := 17) dJ0_isLatin1_aae02_3 (by decide) (fun q => absurd q (by decide)) (fun _ => ?_)
  refine mw_aload_n 0 dJ0_isLatin1_aae02_6 rfl ?_
  refine mw_strC dJ0_isLatin1_aae02_7 (m_t1 2221 rfl rfl) hi ?_
  refine mw_if_ne (tgt := 17) dJ0_isLatin1_aae02_10 (by decide) (fun q => absurd rfl q) (fun _ => ?_)
  refine mw_iconst (v := 1) dJ0_isLatin1_aae02_13 rfl ?_
  refine mw_goto (tgt := 18) dJ0_isLatin1_aae02_14 (by decide) ?_
  exact mw_ireturn dJ0_isLatin1_aae02_18 rfl rfl ⟨rfl, rfl⟩ ⟨rfl, rfl⟩
set_option maxRecDepth 100000 in
theorem c_J3_checkIndex (d : Nat) (h : m_H) (v : Value) (hv : v = .null ∨ v = .ref 1200000) {x y : Int32} (h0 : ¬ x < 0) (hy : x < y) : MC yJ3_checkIndex_8e157 cJ3_checkIndex_8e157 3 (some .int) (d + 1) 0 0 [.int x, .int y, v] h (m_r (.int x) h) := by
  refine mc_of (by decide +kernel) (by rcases hv with rfl | rfl <;> exact Nat.le_of_ble_eq_true rfl) ?_
  show MW (yJ3_checkIndex_8e157.cls, cJ3_checkIndex_8e157, 3, (some .int), yJ3_checkIndex_8e157.name, d + 1, 0, 0) 0 (0, 0) [(0, .int x), (1, .int y), (2, v)] [] h _
  refine mw_iload_n 0 dJ3_checkIndex_8e157_0 rfl ?_
  refine mw_if_lt (tgt := 9) dJ3_checkIndex_8e157_1 (by decide) (fun q => absurd q h0) (fun _ => ?_)
  refine mw_iload_n 0 dJ3_checkIndex_8e157_4 rfl ?_
  refine mw_iload_n 1 dJ3_checkIndex_8e157_5 rfl ?_
  refine mw_icmp_lt (tgt := 16) dJ3_checkIndex_8e157_6 (by decide) (fun _ => ?_) (fun q => absurd hy q)
  refine mw_iload_n 0 dJ3_checkIndex_8e157_16 rfl ?_
  exact mw_ireturn dJ3_checkIndex_8e157_17 rfl rfl ⟨rfl, rfl⟩ ⟨rfl, rfl⟩
set_option maxRecDepth 100000 in
theorem c_J0_checkIndex (d : Nat) (h : m_H) {x y : Int32} (h0 : ¬ x < 0) (hy : x < y) : MC yJ0_checkIndex_df160 cJ0_checkIndex_df160 2 none (d + 2) 0 0 [.int x, .int y] h (m_rn h) := by
  refine mc_of (by decide +kernel) (Nat.le_of_ble_eq_true rfl) ?_
  show MW (yJ0_checkIndex_df160.cls, cJ0_checkIndex_df160, 2, none, yJ0_checkIndex_df160.name, d + 2, 0, 0) 0 (0, 0) [(0, .int x), (1, .int y)] [] h _
  refine mw_iload_n 0 dJ0_checkIndex_df160_0 rfl ?_
  refine mw_iload_n 1 dJ0_checkIndex_df160_1 rfl ?_
  refine mw_strF dJ0_checkIndex_df160_2 (m_t1 68 rfl rfl) (fun v hv => ?_)
  refine mw_cS (rest := []) [.int x, .int y, v] (c_J3_checkIndex d h v hv h0 hy) mY_J3_checkIndex_8e157 dJ0_checkIndex_df160_5 ml_J0_1059 rfl rfl (Nat.le_of_ble_eq_true rfl) ⟨Nat.le_refl _, Nat.le_refl _⟩ rfl ?_
  refine mw_pop dJ0_checkIndex_df160_8 rfl ?_
  exact mw_return dJ0_checkIndex_df160_9 rfl ⟨rfl, rfl⟩ ⟨rfl, rfl⟩
set_option maxRecDepth 100000 in
theorem c_J1_charAt (d : Nat) (h : m_H) {i k : Nat} (hi : i < 8) (hk : k < m_len.getD i 0) : MC yJ1_charAt_3b067 cJ1_charAt_3b067 2 (some .char) (d + 3) 0 0 [.ref (1100000 + i), .int (nI k)] h (m_r (.int (sC i k)) h) := by
  have l3 := (sC_l i hi).2
  have e : (nI k).toNatClampNeg = k := nI_clamp (by omega)
  refine mc_of (by decide +kernel) (Nat.le_of_ble_eq_true rfl) ?_
  show MW (yJ1_charAt_3b067.cls, cJ1_charAt_3b067, 2, (some .char), yJ1_charAt_3b067.name, d + 3, 0, 0) 0 (0, 0) [(0, .ref (1100000 + i)), (1, .int (nI k))] [] h _
  refine mw_iload_n 1 dJ1_charAt_3b067_0 rfl ?_
  refine mw_aload_n 0 dJ1_charAt_3b067_1 rfl ?_
  refine mw_strL dJ1_charAt_3b067_2 hi ?_
  refine mw_cSv (rest := []) [.int (nI k), .int (nI (m_len.getD i 0))] (c_J0_checkIndex d h (sx_0 (by omega)) (sx_lt hk (by omega))) mY_J0_checkIndex_df160 dJ1_charAt_3b067_3 ml_J1_9 rfl rfl (Nat.le_of_ble_eq_true rfl) ⟨Nat.le_refl _, Nat.le_refl _⟩ rfl ?_
  refine mw_aload_n 0 dJ1_charAt_3b067_6 rfl ?_
  refine mw_iload_n 1 dJ1_charAt_3b067_7 rfl ?_
  refine mw_strB dJ1_charAt_3b067_8 hi (sx_in hk (by omega)) ?_
  refine mw_sipush (v := 255) dJ1_charAt_3b067_9 rfl ?_
  refine mw_iand dJ1_charAt_3b067_12 ?_
  refine mw_i2c (v := sC i k) dJ1_charAt_3b067_13 (by rw [e]; exact (sC_c i hi k hk).1) ?_
  exact mw_ireturn dJ1_charAt_3b067_14 rfl (sC_c i hi k hk).2 ⟨rfl, rfl⟩ ⟨rfl, rfl⟩
set_option maxRecDepth 100000 in
theorem c_J0_charAt (d : Nat) (h : m_H) {i k : Nat} (hi : i < 8) (hk : k < m_len.getD i 0) : MC yJ0_charAt_5068e cJ0_charAt_5068e 2 (some .char) (d + 4) 0 0 [.ref (1000000 + i), .int (nI k)] h (m_r (.int (sC i k)) h) := by
  refine mc_of (by decide +kernel) (Nat.le_of_ble_eq_true rfl) ?_
  show MW (yJ0_charAt_5068e.cls, cJ0_charAt_5068e, 2, (some .char), yJ0_charAt_5068e.name, d + 4, 0, 0) 0 (0, 0) [(0, .ref (1000000 + i)), (1, .int (nI k))] [] h _
  refine mw_aload_n 0 dJ0_charAt_5068e_0 rfl ?_
  refine mw_cStr (rest := []) [] hi (c_J0_isLatin1 (d + 2) h hi) mY_J0_isLatin1 dJ0_charAt_5068e_1 ml_J0_492 rfl rfl (Nat.le_of_ble_eq_true rfl) ⟨Nat.le_refl _, Nat.le_refl _⟩ rfl ?_
  refine mw_if_eq (tgt := 16) dJ0_charAt_5068e_4 (by decide) (fun q => absurd q (by decide)) (fun _ => ?_)
  refine mw_aload_n 0 dJ0_charAt_5068e_7 rfl ?_
  refine mw_strV dJ0_charAt_5068e_8 (m_t1 2220 rfl rfl) hi ?_
  refine mw_iload_n 1 dJ0_charAt_5068e_11 rfl ?_
  refine mw_cS (rest := []) [.ref (1100000 + i), .int (nI k)] (c_J1_charAt d h hi hk) mY_J1_charAt_3b067 dJ0_charAt_5068e_12 ml_J0_495 rfl rfl (Nat.le_of_ble_eq_true rfl) ⟨Nat.le_refl _, Nat.le_refl _⟩ rfl ?_
  exact mw_ireturn dJ0_charAt_5068e_15 rfl (sC_c i hi k hk).2 ⟨rfl, rfl⟩ ⟨rfl, rfl⟩
set_option maxRecDepth 100000 in
theorem c_J0_length (d : Nat) (h : m_H) {i : Nat} (hi : i < 8) : MC yJ0_length_8abf5 cJ0_length_8abf5 1 (some .int) (d + 2) 0 0 [.ref (1000000 + i)] h (m_r (.int (nI (m_len.getD i 0))) h) := by
  refine mc_of (by decide +kernel) (Nat.le_of_ble_eq_true rfl) ?_
  show MW (yJ0_length_8abf5.cls, cJ0_length_8abf5, 1, (some .int), yJ0_length_8abf5.name, d + 2, 0, 0) 0 (0, 0) [(0, .ref (1000000 + i))] [] h _
  refine mw_aload_n 0 dJ0_length_8abf5_0 rfl ?_
  refine mw_strV dJ0_length_8abf5_1 (m_t1 2220 rfl rfl) hi ?_
  refine mw_strL dJ0_length_8abf5_4 hi ?_
  refine mw_aload_n 0 dJ0_length_8abf5_5 rfl ?_
  refine mw_cStr (rest := [.int (nI (m_len.getD i 0))]) [] hi (c_J0_coder d h hi) mY_J0_coder dJ0_length_8abf5_6 ml_J0_335 rfl rfl (Nat.le_of_ble_eq_true rfl) ⟨Nat.le_refl _, Nat.le_refl _⟩ rfl ?_
  refine mw_ishr dJ0_length_8abf5_9 ?_
  rw [(sC_l i hi).1]
  exact mw_ireturn dJ0_length_8abf5_10 rfl rfl ⟨rfl, rfl⟩ ⟨rfl, rfl⟩
