/-! Tag.addText, as the machine does it -/
def rS {α : Type} (i : Nat) (x : Int32) (F : Int32 → RM α) : RM α := fun X => if 0 ≤ x ∧ x < nI (m_len.getD i 0) then F (sC i x.toNatClampNeg) X else none
noncomputable def fX9_addText (i : Nat) : RM Unit := (lz1 (fun L2 x1 => (it (nI (m_len.getD i 0) ≤ x1) (re ()) (rS i x1 fun v => (ca (fX9_addByte v) fun _ => (L2 (x1 + 1)))))) FU 0)
section STF
variable {α : Type} {ρ : α → Option Value} {K : m_K} {pc : Nat} {lv : List (Nat × Value)} {rest : List Value} {q : m_S}
theorem mf_strLen {F : RM α} {i idx d : Nat} (hi : i < 8) (hd : decode K.2.1 pc = .ok (.invokevirtual idx, 3)) (hl : Cond.methodLink K.1 idx yJ0_length_8abf5 ∈ m_tb) (hdep : K.2.2.2.2.2.1 = d + 3) (hw : (rest.map fun v => v.category).sum ≤ 8) (k : MF ρ K (pc + 3) lv (.int (nI (m_len.getD i 0)) :: rest) q F) : MF ρ K pc lv (.ref (1000000 + i) :: rest) q F :=
  fun X r X' e => mw_cStr [] hi (c_J0_length d _ hi) mY_J0_length hd hl hdep rfl hw ⟨Nat.zero_le _, Nat.zero_le _⟩ rfl (k X r X' e)
theorem mf_strAt {F : Int32 → RM α} {i idx d : Nat} {x : Int32} (hi : i < 8) (hd : decode K.2.1 pc = .ok (.invokevirtual idx, 3)) (hl : Cond.methodLink K.1 idx yJ0_charAt_5068e ∈ m_tb) (hdep : K.2.2.2.2.2.1 = d + 5) (hw : (rest.map fun v => v.category).sum ≤ 8) (k : ∀ v, MF ρ K (pc + 3) lv (.int v :: rest) q (F v)) : MF ρ K pc lv (.int x :: .ref (1000000 + i) :: rest) q (rS i x F) := fun X r X' e => by
  have l3 := (sC_l i hi).2
  unfold rS at e
  by_cases c : 0 ≤ x ∧ x < nI (m_len.getD i 0)
  · rw [if_pos c] at e
    obtain ⟨t, ht, rfl⟩ := idx_of (by omega) c
    rw [nI_clamp (by omega)] at e
    exact mw_cStr [.int (nI t)] hi (c_J0_charAt d _ hi ht) mY_J0_charAt hd hl hdep rfl hw ⟨Nat.zero_le _, Nat.zero_le _⟩ rfl (k _ X r X' e)
  · rw [if_neg c] at e
    cases e
end STF
set_option maxRecDepth 100000 in
set_option maxHeartbeats 4000000 in
theorem aX9_addText (d : Nat) (q : m_S) (hq : isW q) {i : Nat} (hi : i < 8) : AC rU yX9_addText cX9_addText 3 none (d + 5) [.ref 148, .ref (1000000 + i)] q (fX9_addText i) := by
  refine ac_of (by decide +kernel) (Nat.le_of_ble_eq_true rfl) ?_
  unfold fX9_addText
  show MF rU (yX9_addText.cls, cX9_addText, 3, none, yX9_addText.name, d + 5, 0, 0) 0 [(0, .ref 148), (1, .ref (1000000 + i))] [] q _
  refine mf_iconst (v := 0) dX9_addText_0 rfl ?_
  refine mf_istore_n [(2, .int 0), (0, .ref 148), (1, .ref (1000000 + i))] dX9_addText_1 (Nat.le_of_ble_eq_true rfl) rfl ?_
  refine mf_sub [1, 2, 0] rfl ?_
  refine mf_lz1 (lv := fun x1 => [(0, .ref 148), (1, .ref (1000000 + i)), (2, .int x1)]) (fun L3 h3 x1 => ?_) _ _
  show MF rU (yX9_addText.cls, cX9_addText, 3, none, yX9_addText.name, d + 5, 0, 0) 2 [(0, .ref 148), (1, .ref (1000000 + i)), (2, .int x1)] [] q _
  refine mf_iload_n 2 dX9_addText_2 rfl ?_
  refine mf_aload_n 1 dX9_addText_3 rfl ?_
  refine mf_strLen (rest := [.int x1]) (d := d + 2) hi dX9_addText_4 ml_X9_52 rfl (Nat.le_of_ble_eq_true rfl) ?_
  refine mf_icmp_ge (tgt := 25) dX9_addText_7 (by decide) ?_ ?_
  · exact mf_return dX9_addText_25 rfl ⟨rfl, rfl⟩
  · refine mf_aload_n 0 dX9_addText_10 rfl ?_
    refine mf_aload_n 1 dX9_addText_11 rfl ?_
    refine mf_iload_n 2 dX9_addText_12 rfl ?_
    refine mf_strAt (rest := [.ref 148]) (d := d) hi dX9_addText_13 ml_X9_58 rfl (Nat.le_of_ble_eq_true rfl) (fun v => ?_)
    refine mf_cVv (rest := []) [.int v] (aX9_addByte (d + 3) q hq v) mY_X9_addByte dX9_addText_16 ml_X9_62 (tg_o (w_tg hq)) rfl rfl (Nat.le_of_ble_eq_true rfl) rfl (fun _ => ?_)
    refine mf_iinc 2 (x1 + 1) [(2, .int (x1 + 1)), (0, .ref 148), (1, .ref (1000000 + i))] dX9_addText_19 rfl rfl (Nat.le_of_ble_eq_true rfl) rfl ?_
    refine mf_goto (tgt := 2) dX9_addText_22 (by decide) ?_
    refine mf_sub [1, 2, 0] rfl ?_
    exact h3 _
theorem addText_lp {i : Nat} {l : List Nat} (hl : m_len.getD i 0 = l.length) (hs : ∀ k, k < l.length → sC i k = nI (l.getD k 0)) (h3 : l.length < 1000) : ∀ (r : List Nat) (k f : Nat) (X : X_) (n : Nat), l.drop k = r → k + r.length = l.length → r.length < f → X.1 148 1 = nI n → n + r.length ≤ 26 → lz1 (fun L2 x1 => (it (nI (m_len.getD i 0) ≤ x1) (re ()) (rS i x1 fun v => (ca (fX9_addByte v) fun _ => (L2 (x1 + 1)))))) f (nI k) X = some ((), cP X n r) := by
  intro r
  induction r with
  | nil =>
    intro k f X n hd hk hf h hn
    obtain ⟨f, rfl⟩ : ∃ g, f = g + 1 := ⟨f - 1, by omega⟩
    rw [List.length_nil, Nat.add_zero] at hk
    rw [lz1_s, hl, it_t (show nI l.length ≤ nI k from nI_le (by omega) (by omega))]; rfl
  | cons b r ih =>
    intro k f X n hd hk hf h hn
    rw [List.length_cons] at hk hf hn
    obtain ⟨f, rfl⟩ : ∃ g, f = g + 1 := ⟨f - 1, by omega⟩
    have hb : l.getD k 0 = b := by
      have := congrArg (fun z => z.getD 0 0) hd
      simpa using this
    have hr : l.drop (k + 1) = r := by
      have := congrArg (fun z => z.drop 1) hd
      simpa [List.drop_drop] using this
    rw [lz1_s, it_f (show ¬ nI (m_len.getD i 0) ≤ nI k from fun z => absurd ((nI_leI (by omega) (by omega)).mp z) (by omega))]
    have er : ∀ F : Int32 → RM Unit, rS i (nI k) F X = F (nI b) X := fun F => by
      unfold rS
      rw [if_pos ⟨nI_pos' (by omega), (nI_ltI (by omega) (by omega)).mpr (by omega)⟩, nI_clamp (by omega), hs k (by omega), hb]
    rw [er, ca_s (addB h (by omega)), nI_1]
    exact ih (k + 1) f _ (n + 1) hr (by omega) (by omega) sI_eq (by omega)
def tB (i : Nat) : List Nat := ([[], [32, 111, 117, 116], [32, 105, 110, 32], [32, 99, 114, 97, 115, 104, 101, 100], [32, 119, 97, 105, 116, 115]] : List (List Nat)).getD i []
theorem tB_c : ∀ i, i < 5 → 1 ≤ i → m_len.getD i 0 = (tB i).length ∧ (tB i).length ≤ 8 ∧ ∀ k, k < (tB i).length → sC i k = nI ((tB i).getD k 0) := by decide +kernel
theorem addText_e {i n : Nat} {X : X_} (h1 : 1 ≤ i) (h5 : i < 5) (h : X.1 148 1 = nI n) (hn : n + (tB i).length ≤ 26) : fX9_addText i X = some ((), cP X n (tB i)) := by
  obtain ⟨a, b, c⟩ := tB_c i h5 h1
  exact addText_lp a c (by omega) (tB i) 0 FU X n rfl (by omega) (by rw [FU_eq]; omega) h hn
noncomputable def fX9_write (a1 : Int32) : RM Unit := (pI 148 1 0 (ca (fX5_nameOf 4 6 a1) fun v1 => (ca (fX9_addName v1) fun _ => (rA (47 + 4) 5 a1 fun v2 => (jo0 ((gI 47 6 fun v5 => (it (((v5 >>> (a1 &&& 31)) &&& 1) = 1) (ca (fX9_addText 3) fun _ => (re ())) (gI 47 7 fun v6 => (it (((v6 >>> (a1 &&& 31)) &&& 1) = 1) (ca (fX9_addText 4) fun _ => (re ())) (re ())))))) (fun J56 => (it (v2 = (-1)) (ca (fX9_addText 1) fun _ => J56) (ca (fX9_addText 2) fun _ => (rA (47 + 4) 5 a1 fun v3 => (ca (fX5_nameOf 4 0 v3) fun v4 => (ca (fX9_addName v4) fun _ => J56)))))))))))
noncomputable def fX11_tag (a1 : Int32) : RM Int32 := (ca (fX5_has 4 6 a1) fun v1 => (it (v1 = 0) (re (-1)) (ca (fX9_write a1) fun _ => (gI 148 1 fun v2 => (re v2)))))
section STG
variable {α : Type} {ρ : α → Option Value} {K : m_K} {pc : Nat} {lv : List (Nat × Value)} {rest : List Value} {q : m_S}
theorem mf_ldcS {F : RM α} {ix k : Nat} {tx : String} (hd : decode K.2.1 pc = .ok (.ldc ix, 2)) (hw : (K.1, ix, tx, k) ∈ m_strs) (hk : 1000000 ≤ k) (kk : MF ρ K (pc + 2) lv (.ref k :: rest) q F) : MF ρ K pc lv rest q F := fun X r X' e => mw_ldcS hd hw hk (kk X r X' e)
end STG
set_option maxRecDepth 100000 in
set_option maxHeartbeats 4000000 in
theorem aX9_write (d : Nat) (q : m_S) (hq : isW q) (a1 : Int32) : AC rU yX9_write cX9_write 4 none (d + 6) [.ref 148, .ref 4, .ref 47, .int a1] q (fX9_write a1) := by
  refine ac_of (by decide +kernel) (Nat.le_of_ble_eq_true rfl) ?_
  unfold fX9_write
  show MF rU (yX9_write.cls, cX9_write, 4, none, yX9_write.name, d + 6, 0, 0) 0 [(0, .ref 148), (1, .ref 4), (2, .ref 47), (3, .int a1)] [] q _
  refine mf_aload_n 0 dX9_write_0 rfl ?_
  refine mf_iconst (v := 0) dX9_write_1 rfl ?_
  refine mf_puti 9 1 dX9_write_2 fl_X9_15 (by decide) (by decide) rfl rfl (tg_o (w_tg hq)) ?_
  refine mf_aload_n 0 dX9_write_5 rfl ?_
  refine mf_aload_n 1 dX9_write_6 rfl ?_
  refine mf_bipush (v := 6) dX9_write_7 (by decide) ?_
  refine mf_iload_n 3 dX9_write_9 rfl ?_
  refine mf_cVl (rest := [.ref 148]) [.int 6, .int a1] (aX5_nameOf (d + 4) q hq 4 6 a1 pl4) mY_X5_nameOf dX9_write_10 ml_X9_19 (pl_o (w_pl hq pl4)) rfl rfl (Nat.le_of_ble_eq_true rfl) rfl (fun v1 => ?_)
  refine mf_cVv (rest := []) [.long v1] (aX9_addName (d + 3) q hq v1) mY_X9_addName dX9_write_13 ml_X9_25 (tg_o (w_tg hq)) rfl rfl (Nat.le_of_ble_eq_true rfl) rfl (fun _ => ?_)
  refine mf_aload_n 2 dX9_write_16 rfl ?_
  refine mf_getr 8 11 dX9_write_17 fl_X9_29 (by decide) (by decide) rfl (sa_o (w_st hq st47)) (sa_r11 (w_st hq st47)) (by decide) ?_
  refine mf_iload_n 3 dX9_write_20 rfl ?_
  refine mf_iald dX9_write_21 (sa_a11 (w_st hq st47)) (fun v2 => ?_)
  refine mf_iconst (v := -1) dX9_write_22 rfl ?_
  refine mf_jo0 (pj := 56) (lvj := [(0, .ref 148), (1, .ref 4), (2, .ref 47), (3, .int a1)]) (stj := []) ?_ (fun J56 hJ56 => ?_)
  · show MF rU (yX9_write.cls, cX9_write, 4, none, yX9_write.name, d + 6, 0, 0) 56 [(0, .ref 148), (1, .ref 4), (2, .ref 47), (3, .int a1)] [] q _
    refine mf_aload_n 2 dX9_write_56 rfl ?_
    refine mf_geti 8 6 dX9_write_57 fl_X9_42 (by decide) (by decide) rfl (sa_o (w_st hq st47)) (fun v5 => ?_)
    refine mf_iload_n 3 dX9_write_60 rfl ?_
    refine mf_ishr dX9_write_61 ?_
    refine mf_iconst (v := 1) dX9_write_62 rfl ?_
    refine mf_iand dX9_write_63 ?_
    refine mf_iconst (v := 1) dX9_write_64 rfl ?_
    refine mf_icmp_ne (tgt := 77) dX9_write_65 (by decide) ?_ ?_
    · refine mf_aload_n 2 dX9_write_77 rfl ?_
      refine mf_geti 8 7 dX9_write_78 fl_X9_47 (by decide) (by decide) rfl (sa_o (w_st hq st47)) (fun v6 => ?_)
      refine mf_iload_n 3 dX9_write_81 rfl ?_
      refine mf_ishr dX9_write_82 ?_
      refine mf_iconst (v := 1) dX9_write_83 rfl ?_
      refine mf_iand dX9_write_84 ?_
      refine mf_iconst (v := 1) dX9_write_85 rfl ?_
      refine mf_icmp_ne (tgt := 95) dX9_write_86 (by decide) ?_ ?_
      · exact mf_return dX9_write_95 rfl ⟨rfl, rfl⟩
      · refine mf_aload_n 0 dX9_write_89 rfl ?_
        refine mf_ldcS (k := 1000000 + 4) (tx := " waits") dX9_write_90 (.tail _ (.tail _ (.tail _ (.tail _ (.head _))))) (by decide) ?_
        refine mf_cVv (rest := []) [.ref (1000000 + 4)] (aX9_addText d q hq (i := 4) (by decide)) mY_X9_addText dX9_write_92 ml_X9_36 (tg_o (w_tg hq)) rfl rfl (Nat.le_of_ble_eq_true rfl) rfl (fun _ => ?_)
        exact mf_return dX9_write_95 rfl ⟨rfl, rfl⟩
    · refine mf_aload_n 0 dX9_write_68 rfl ?_
      refine mf_ldcS (k := 1000000 + 3) (tx := " crashed") dX9_write_69 (.tail _ (.tail _ (.tail _ (.head _)))) (by decide) ?_
      refine mf_cVv (rest := []) [.ref (1000000 + 3)] (aX9_addText d q hq (i := 3) (by decide)) mY_X9_addText dX9_write_71 ml_X9_36 (tg_o (w_tg hq)) rfl rfl (Nat.le_of_ble_eq_true rfl) rfl (fun _ => ?_)
      refine mf_goto (tgt := 95) dX9_write_74 (by decide) ?_
      exact mf_return dX9_write_95 rfl ⟨rfl, rfl⟩
  · refine mf_icmp_ne (tgt := 35) dX9_write_23 (by decide) ?_ ?_
    · refine mf_aload_n 0 dX9_write_35 rfl ?_
      refine mf_ldcS (k := 1000000 + 2) (tx := " in ") dX9_write_36 (.tail _ (.tail _ (.head _))) (by decide) ?_
      refine mf_cVv (rest := []) [.ref (1000000 + 2)] (aX9_addText d q hq (i := 2) (by decide)) mY_X9_addText dX9_write_38 ml_X9_36 (tg_o (w_tg hq)) rfl rfl (Nat.le_of_ble_eq_true rfl) rfl (fun _ => ?_)
      refine mf_aload_n 0 dX9_write_41 rfl ?_
      refine mf_aload_n 1 dX9_write_42 rfl ?_
      refine mf_iconst (v := 0) dX9_write_43 rfl ?_
      refine mf_aload_n 2 dX9_write_44 rfl ?_
      refine mf_getr 8 11 dX9_write_45 fl_X9_29 (by decide) (by decide) rfl (sa_o (w_st hq st47)) (sa_r11 (w_st hq st47)) (by decide) ?_
      refine mf_iload_n 3 dX9_write_48 rfl ?_
      refine mf_iald dX9_write_49 (sa_a11 (w_st hq st47)) (fun v3 => ?_)
      refine mf_cVl (rest := [.ref 148]) [.int 0, .int v3] (aX5_nameOf (d + 4) q hq 4 0 v3 pl4) mY_X5_nameOf dX9_write_50 ml_X9_19 (pl_o (w_pl hq pl4)) rfl rfl (Nat.le_of_ble_eq_true rfl) rfl (fun v4 => ?_)
      refine mf_cVv (rest := []) [.long v4] (aX9_addName (d + 3) q hq v4) mY_X9_addName dX9_write_53 ml_X9_25 (tg_o (w_tg hq)) rfl rfl (Nat.le_of_ble_eq_true rfl) rfl (fun _ => ?_)
      exact hJ56
    · refine mf_aload_n 0 dX9_write_26 rfl ?_
      refine mf_ldcS (k := 1000000 + 1) (tx := " out") dX9_write_27 (.tail _ (.head _)) (by decide) ?_
      refine mf_cVv (rest := []) [.ref (1000000 + 1)] (aX9_addText d q hq (i := 1) (by decide)) mY_X9_addText dX9_write_29 ml_X9_36 (tg_o (w_tg hq)) rfl rfl (Nat.le_of_ble_eq_true rfl) rfl (fun _ => ?_)
      refine mf_goto (tgt := 56) dX9_write_32 (by decide) ?_
      exact hJ56
set_option maxRecDepth 100000 in
set_option maxHeartbeats 4000000 in
theorem aX11_tag (d : Nat) (q : m_S) (hq : isW q) (a1 : Int32) : AC rI yX11_tag cX11_tag 2 (some .int) (d + 7) [.ref 0, .int a1] q (fX11_tag a1) := by
  refine ac_of (by decide +kernel) (Nat.le_of_ble_eq_true rfl) ?_
  unfold fX11_tag
  show MF rI (yX11_tag.cls, cX11_tag, 2, (some .int), yX11_tag.name, d + 7, 0, 0) 0 [(0, .ref 0), (1, .int a1)] [] q _
  refine mf_aload_n 0 dX11_tag_0 rfl ?_
  refine mf_getr 11 1 dX11_tag_1 fl_X11_19 (by decide) (by decide) rfl (lf_o (w_lf hq)) (lf_r1 (w_lf hq)) (by decide) ?_
  refine mf_bipush (v := 6) dX11_tag_4 (by decide) ?_
  refine mf_iload_n 1 dX11_tag_6 rfl ?_
  refine mf_cVi (rest := []) [.int 6, .int a1] (aX5_has (d + 5) q hq 4 6 a1 pl4) mY_X5_has dX11_tag_7 ml_X11_134 (pl_o (w_pl hq pl4)) rfl rfl (Nat.le_of_ble_eq_true rfl) rfl (fun v1 => ?_)
  refine mf_if_ne (tgt := 15) dX11_tag_10 (by decide) ?_ ?_
  · refine mf_aload_n 0 dX11_tag_15 rfl ?_
    refine mf_getr 11 12 dX11_tag_16 fl_X11_89 (by decide) (by decide) rfl (lf_o (w_lf hq)) (lf_r12 (w_lf hq)) (by decide) ?_
    refine mf_aload_n 0 dX11_tag_19 rfl ?_
    refine mf_getr 11 1 dX11_tag_20 fl_X11_19 (by decide) (by decide) rfl (lf_o (w_lf hq)) (lf_r1 (w_lf hq)) (by decide) ?_
    refine mf_aload_n 0 dX11_tag_23 rfl ?_
    refine mf_getr 11 3 dX11_tag_24 fl_X11_35 (by decide) (by decide) rfl (lf_o (w_lf hq)) (lf_r3 (w_lf hq)) (by decide) ?_
    refine mf_iload_n 1 dX11_tag_27 rfl ?_
    refine mf_cVv (rest := []) [.ref 4, .ref 47, .int a1] (aX9_write d q hq a1) mY_X9_write dX11_tag_28 ml_X11_335 (tg_o (w_tg hq)) rfl rfl (Nat.le_of_ble_eq_true rfl) rfl (fun _ => ?_)
    refine mf_aload_n 0 dX11_tag_31 rfl ?_
    refine mf_getr 11 12 dX11_tag_32 fl_X11_89 (by decide) (by decide) rfl (lf_o (w_lf hq)) (lf_r12 (w_lf hq)) (by decide) ?_
    refine mf_geti 9 1 dX11_tag_35 fl_X11_339 (by decide) (by decide) rfl (tg_o (w_tg hq)) (fun v2 => ?_)
    exact mf_ireturn dX11_tag_38 rfl rfl ⟨rfl, rfl⟩
  · refine mf_iconst (v := -1) dX11_tag_13 rfl ?_
    exact mf_ireturn dX11_tag_14 rfl rfl ⟨rfl, rfl⟩
