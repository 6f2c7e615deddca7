theorem cwH_O {B : m_H} {ci : Nat} (o : m_O B 0 ci) : ∀ i, m_O (cwH B i) 0 ci := fun i => by
  have e := (cwH_fr B i).2.1
  have q : m_O (m_nw B 101 32) 0 ci := nw_O o
  unfold m_O
  rw [e]
  exact q
def kX5_init (a : Nat) : m_H := (m_si (m_sr (m_nw (m_sr (m_nw (m_sr (m_nw (m_sr (m_nw (m_sr (m_nw (m_sr (m_nw (m_sr (m_nw (m_sr (m_nw (m_sr (m_nw (m_sr (m_nw (m_sr (m_nw (m_sr (m_nw (m_sr (m_nw (m_sr (m_nw (m_sr (m_nw (m_sr (m_nw (m_sr (m_nw (m_sr (m_nw (m_sr (m_nw (m_sr (m_nw (m_nw ew0 5 0) 100 8) 0 0 (some (a + 1))) 101 96) 0 1 (some (a + 2))) 100 12) 0 2 (some (a + 3))) 100 6) 0 3 (some (a + 4))) 100 16) 0 4 (some (a + 5))) 100 16) 0 5 (some (a + 6))) 100 16) 0 6 (some (a + 7))) 100 16) 0 7 (some (a + 8))) 100 8) 0 8 (some (a + 9))) 100 8) 0 9 (some (a + 10))) 100 10) 0 10 (some (a + 11))) 100 10) 0 11 (some (a + 12))) 100 60) 0 12 (some (a + 13))) 100 10) 0 13 (some (a + 14))) 100 10) 0 14 (some (a + 15))) 100 10) 0 15 (some (a + 16))) 100 10) 0 16 (some (a + 17))) 100 10) 0 17 (some (a + 18))) 100 5) 0 18 (some (a + 19))) 100 5) 0 19 (some (a + 20))) 1 7 3)
set_option maxRecDepth 100000 in
set_option maxHeartbeats 4000000 in
theorem c_X5_init (d a : Nat) (h : m_H) (hm : a + 21 < 1000000) : MC yX5_init cX5_init 1 none (d + 1) 20 342 [.ref a] (exw h a (m_nw ew0 5 0)) (m_rn (exw h a (kX5_init a))) := by
  refine mc_of (by decide +kernel) (Nat.le_of_ble_eq_true rfl) ?_
  have o : m_O (m_nw ew0 5 0) 0 5 := ⟨Nat.le_of_ble_eq_true rfl, rfl⟩
  show MW (yX5_init.cls, cX5_init, 1, none, yX5_init.name, d + 1, 20, 342) 0 (0, 0) [(0, .ref a)] [] (exw h a (m_nw ew0 5 0)) _
  refine mw_aload_n 0 dX5_init_0 rfl ?_
  refine mw_objI dX5_init_1 ml_X5_3 iml_obj col_obj (by show 1 ≤ d + 1; omega) (Nat.le_of_ble_eq_true rfl) ?_
  refine mw_aload_n 0 dX5_init_4 rfl ?_
  refine mw_bipush (v := 8) dX5_init_5 (by decide) ?_
  refine ke_newa (t := 0) (N := 8) (z' := (1, 8)) 1 rfl dX5_init_7 al_int (fun G => rfl) (by decide) (by decide) (by decide) ⟨Nat.le_of_ble_eq_true rfl, Nat.le_of_ble_eq_true rfl⟩ rfl (by omega) rfl rfl o (fun o => ?_)
  refine ke_putr 5 0 dX5_init_9 fl_X5_9 (by decide) (by decide) rfl (Or.inr ⟨rfl, rfl, rfl⟩) o (fun o => ?_)
  refine mw_aload_n 0 dX5_init_12 rfl ?_
  refine mw_bipush (v := 96) dX5_init_13 (by decide) ?_
  refine ke_newa (t := 1) (N := 96) (z' := (2, 104)) 2 rfl dX5_init_15 al_long (fun G => rfl) (by decide) (by decide) (by decide) ⟨Nat.le_of_ble_eq_true rfl, Nat.le_of_ble_eq_true rfl⟩ rfl (by omega) rfl rfl o (fun o => ?_)
  refine ke_putr 5 1 dX5_init_17 fl_X5_15 (by decide) (by decide) rfl (Or.inr ⟨rfl, rfl, rfl⟩) o (fun o => ?_)
  refine mw_aload_n 0 dX5_init_20 rfl ?_
  refine mw_bipush (v := 12) dX5_init_21 (by decide) ?_
  refine ke_newa (t := 0) (N := 12) (z' := (3, 116)) 3 rfl dX5_init_23 al_int (fun G => rfl) (by decide) (by decide) (by decide) ⟨Nat.le_of_ble_eq_true rfl, Nat.le_of_ble_eq_true rfl⟩ rfl (by omega) rfl rfl o (fun o => ?_)
  refine ke_putr 5 2 dX5_init_25 fl_X5_19 (by decide) (by decide) rfl (Or.inr ⟨rfl, rfl, rfl⟩) o (fun o => ?_)
  refine mw_aload_n 0 dX5_init_28 rfl ?_
  refine mw_bipush (v := 6) dX5_init_29 (by decide) ?_
  refine ke_newa (t := 0) (N := 6) (z' := (4, 122)) 4 rfl dX5_init_31 al_int (fun G => rfl) (by decide) (by decide) (by decide) ⟨Nat.le_of_ble_eq_true rfl, Nat.le_of_ble_eq_true rfl⟩ rfl (by omega) rfl rfl o (fun o => ?_)
  refine ke_putr 5 3 dX5_init_33 fl_X5_22 (by decide) (by decide) rfl (Or.inr ⟨rfl, rfl, rfl⟩) o (fun o => ?_)
  refine mw_aload_n 0 dX5_init_36 rfl ?_
  refine mw_bipush (v := 16) dX5_init_37 (by decide) ?_
  refine ke_newa (t := 0) (N := 16) (z' := (5, 138)) 5 rfl dX5_init_39 al_int (fun G => rfl) (by decide) (by decide) (by decide) ⟨Nat.le_of_ble_eq_true rfl, Nat.le_of_ble_eq_true rfl⟩ rfl (by omega) rfl rfl o (fun o => ?_)
  refine ke_putr 5 4 dX5_init_41 fl_X5_25 (by decide) (by decide) rfl (Or.inr ⟨rfl, rfl, rfl⟩) o (fun o => ?_)
  refine mw_aload_n 0 dX5_init_44 rfl ?_
  refine mw_bipush (v := 16) dX5_init_45 (by decide) ?_
  refine ke_newa (t := 0) (N := 16) (z' := (6, 154)) 6 rfl dX5_init_47 al_int (fun G => rfl) (by decide) (by decide) (by decide) ⟨Nat.le_of_ble_eq_true rfl, Nat.le_of_ble_eq_true rfl⟩ rfl (by omega) rfl rfl o (fun o => ?_)
  refine ke_putr 5 5 dX5_init_49 fl_X5_28 (by decide) (by decide) rfl (Or.inr ⟨rfl, rfl, rfl⟩) o (fun o => ?_)
  refine mw_aload_n 0 dX5_init_52 rfl ?_
  refine mw_bipush (v := 16) dX5_init_53 (by decide) ?_
  refine ke_newa (t := 0) (N := 16) (z' := (7, 170)) 7 rfl dX5_init_55 al_int (fun G => rfl) (by decide) (by decide) (by decide) ⟨Nat.le_of_ble_eq_true rfl, Nat.le_of_ble_eq_true rfl⟩ rfl (by omega) rfl rfl o (fun o => ?_)
  refine ke_putr 5 6 dX5_init_57 fl_X5_31 (by decide) (by decide) rfl (Or.inr ⟨rfl, rfl, rfl⟩) o (fun o => ?_)
  refine mw_aload_n 0 dX5_init_60 rfl ?_
  refine mw_bipush (v := 16) dX5_init_61 (by decide) ?_
  refine ke_newa (t := 0) (N := 16) (z' := (8, 186)) 8 rfl dX5_init_63 al_int (fun G => rfl) (by decide) (by decide) (by decide) ⟨Nat.le_of_ble_eq_true rfl, Nat.le_of_ble_eq_true rfl⟩ rfl (by omega) rfl rfl o (fun o => ?_)
  refine ke_putr 5 7 dX5_init_65 fl_X5_34 (by decide) (by decide) rfl (Or.inr ⟨rfl, rfl, rfl⟩) o (fun o => ?_)
  refine mw_aload_n 0 dX5_init_68 rfl ?_
  refine mw_bipush (v := 8) dX5_init_69 (by decide) ?_
  refine ke_newa (t := 0) (N := 8) (z' := (9, 194)) 9 rfl dX5_init_71 al_int (fun G => rfl) (by decide) (by decide) (by decide) ⟨Nat.le_of_ble_eq_true rfl, Nat.le_of_ble_eq_true rfl⟩ rfl (by omega) rfl rfl o (fun o => ?_)
  refine ke_putr 5 8 dX5_init_73 fl_X5_37 (by decide) (by decide) rfl (Or.inr ⟨rfl, rfl, rfl⟩) o (fun o => ?_)
  refine mw_aload_n 0 dX5_init_76 rfl ?_
  refine mw_bipush (v := 8) dX5_init_77 (by decide) ?_
  refine ke_newa (t := 0) (N := 8) (z' := (10, 202)) 10 rfl dX5_init_79 al_int (fun G => rfl) (by decide) (by decide) (by decide) ⟨Nat.le_of_ble_eq_true rfl, Nat.le_of_ble_eq_true rfl⟩ rfl (by omega) rfl rfl o (fun o => ?_)
  refine ke_putr 5 9 dX5_init_81 fl_X5_40 (by decide) (by decide) rfl (Or.inr ⟨rfl, rfl, rfl⟩) o (fun o => ?_)
  refine mw_aload_n 0 dX5_init_84 rfl ?_
  refine mw_bipush (v := 10) dX5_init_85 (by decide) ?_
  refine ke_newa (t := 0) (N := 10) (z' := (11, 212)) 11 rfl dX5_init_87 al_int (fun G => rfl) (by decide) (by decide) (by decide) ⟨Nat.le_of_ble_eq_true rfl, Nat.le_of_ble_eq_true rfl⟩ rfl (by omega) rfl rfl o (fun o => ?_)
  refine ke_putr 5 10 dX5_init_89 fl_X5_43 (by decide) (by decide) rfl (Or.inr ⟨rfl, rfl, rfl⟩) o (fun o => ?_)
  refine mw_aload_n 0 dX5_init_92 rfl ?_
  refine mw_bipush (v := 10) dX5_init_93 (by decide) ?_
  refine ke_newa (t := 0) (N := 10) (z' := (12, 222)) 12 rfl dX5_init_95 al_int (fun G => rfl) (by decide) (by decide) (by decide) ⟨Nat.le_of_ble_eq_true rfl, Nat.le_of_ble_eq_true rfl⟩ rfl (by omega) rfl rfl o (fun o => ?_)
  refine ke_putr 5 11 dX5_init_97 fl_X5_46 (by decide) (by decide) rfl (Or.inr ⟨rfl, rfl, rfl⟩) o (fun o => ?_)
  refine mw_aload_n 0 dX5_init_100 rfl ?_
  refine mw_bipush (v := 60) dX5_init_101 (by decide) ?_
  refine ke_newa (t := 0) (N := 60) (z' := (13, 282)) 13 rfl dX5_init_103 al_int (fun G => rfl) (by decide) (by decide) (by decide) ⟨Nat.le_of_ble_eq_true rfl, Nat.le_of_ble_eq_true rfl⟩ rfl (by omega) rfl rfl o (fun o => ?_)
  refine ke_putr 5 12 dX5_init_105 fl_X5_49 (by decide) (by decide) rfl (Or.inr ⟨rfl, rfl, rfl⟩) o (fun o => ?_)
  refine mw_aload_n 0 dX5_init_108 rfl ?_
  refine mw_bipush (v := 10) dX5_init_109 (by decide) ?_
  refine ke_newa (t := 0) (N := 10) (z' := (14, 292)) 14 rfl dX5_init_111 al_int (fun G => rfl) (by decide) (by decide) (by decide) ⟨Nat.le_of_ble_eq_true rfl, Nat.le_of_ble_eq_true rfl⟩ rfl (by omega) rfl rfl o (fun o => ?_)
  refine ke_putr 5 13 dX5_init_113 fl_X5_52 (by decide) (by decide) rfl (Or.inr ⟨rfl, rfl, rfl⟩) o (fun o => ?_)
  refine mw_aload_n 0 dX5_init_116 rfl ?_
  refine mw_bipush (v := 10) dX5_init_117 (by decide) ?_
  refine ke_newa (t := 0) (N := 10) (z' := (15, 302)) 15 rfl dX5_init_119 al_int (fun G => rfl) (by decide) (by decide) (by decide) ⟨Nat.le_of_ble_eq_true rfl, Nat.le_of_ble_eq_true rfl⟩ rfl (by omega) rfl rfl o (fun o => ?_)
  refine ke_putr 5 14 dX5_init_121 fl_X5_55 (by decide) (by decide) rfl (Or.inr ⟨rfl, rfl, rfl⟩) o (fun o => ?_)
  refine mw_aload_n 0 dX5_init_124 rfl ?_
  refine mw_bipush (v := 10) dX5_init_125 (by decide) ?_
  refine ke_newa (t := 0) (N := 10) (z' := (16, 312)) 16 rfl dX5_init_127 al_int (fun G => rfl) (by decide) (by decide) (by decide) ⟨Nat.le_of_ble_eq_true rfl, Nat.le_of_ble_eq_true rfl⟩ rfl (by omega) rfl rfl o (fun o => ?_)
  refine ke_putr 5 15 dX5_init_129 fl_X5_58 (by decide) (by decide) rfl (Or.inr ⟨rfl, rfl, rfl⟩) o (fun o => ?_)
  refine mw_aload_n 0 dX5_init_132 rfl ?_
  refine mw_bipush (v := 10) dX5_init_133 (by decide) ?_
  refine ke_newa (t := 0) (N := 10) (z' := (17, 322)) 17 rfl dX5_init_135 al_int (fun G => rfl) (by decide) (by decide) (by decide) ⟨Nat.le_of_ble_eq_true rfl, Nat.le_of_ble_eq_true rfl⟩ rfl (by omega) rfl rfl o (fun o => ?_)
  refine ke_putr 5 16 dX5_init_137 fl_X5_61 (by decide) (by decide) rfl (Or.inr ⟨rfl, rfl, rfl⟩) o (fun o => ?_)
  refine mw_aload_n 0 dX5_init_140 rfl ?_
  refine mw_bipush (v := 10) dX5_init_141 (by decide) ?_
  refine ke_newa (t := 0) (N := 10) (z' := (18, 332)) 18 rfl dX5_init_143 al_int (fun G => rfl) (by decide) (by decide) (by decide) ⟨Nat.le_of_ble_eq_true rfl, Nat.le_of_ble_eq_true rfl⟩ rfl (by omega) rfl rfl o (fun o => ?_)
  refine ke_putr 5 17 dX5_init_145 fl_X5_64 (by decide) (by decide) rfl (Or.inr ⟨rfl, rfl, rfl⟩) o (fun o => ?_)
  refine mw_aload_n 0 dX5_init_148 rfl ?_
  refine mw_iconst (v := 5) dX5_init_149 rfl ?_
  refine ke_newa (t := 0) (N := 5) (z' := (19, 337)) 19 rfl dX5_init_150 al_int (fun G => rfl) (by decide) (by decide) (by decide) ⟨Nat.le_of_ble_eq_true rfl, Nat.le_of_ble_eq_true rfl⟩ rfl (by omega) rfl rfl o (fun o => ?_)
  refine ke_putr 5 18 dX5_init_152 fl_X5_67 (by decide) (by decide) rfl (Or.inr ⟨rfl, rfl, rfl⟩) o (fun o => ?_)
  refine mw_aload_n 0 dX5_init_155 rfl ?_
  refine mw_iconst (v := 5) dX5_init_156 rfl ?_
  refine ke_newa (t := 0) (N := 5) (z' := (20, 342)) 20 rfl dX5_init_157 al_int (fun G => rfl) (by decide) (by decide) (by decide) ⟨Nat.le_of_ble_eq_true rfl, Nat.le_of_ble_eq_true rfl⟩ rfl (by omega) rfl rfl o (fun o => ?_)
  refine ke_putr 5 19 dX5_init_159 fl_X5_70 (by decide) (by decide) rfl (Or.inr ⟨rfl, rfl, rfl⟩) o (fun o => ?_)
  refine mw_aload_n 0 dX5_init_162 rfl ?_
  refine ke_getr (b := a + 1) 5 0 dX5_init_163 fl_X5_9 (by decide) (by decide) rfl o rfl ?_
  refine mw_bipush (v := 7) dX5_init_166 (by decide) ?_
  refine mw_iconst (v := 3) dX5_init_168 rfl ?_
  refine ke_iast (n := 8) 1 7 dX5_init_169 ⟨Nat.le_of_ble_eq_true rfl, rfl⟩ (by decide) (by decide) rfl o (fun o => ?_)
  exact mw_return dX5_init_170 rfl ⟨rfl, rfl⟩ ⟨rfl, rfl⟩
def kX8_init (a pl : Nat) : m_H := (m_sr (m_sr (m_nw (m_sr (m_nw (m_sr (m_nw (m_sr (m_nw (m_sr (m_nw (m_sr (m_nw (m_si (m_si (m_si (m_si (m_si (m_si (m_si (m_nw ew0 8 0) 0 1 0) 0 2 0) 0 3 0) 0 4 0) 0 5 0) 0 6 0) 0 7 0) 100 10) 0 8 (some (a + 1))) 100 10) 0 9 (some (a + 2))) 100 10) 0 10 (some (a + 3))) 100 5) 0 11 (some (a + 4))) 100 5) 0 12 (some (a + 5))) 100 5) 0 13 (some (a + 6))) 0 0 (some pl))
set_option maxRecDepth 100000 in
set_option maxHeartbeats 4000000 in
theorem c_X8_init (d a pl : Nat) (h : m_H) (hm : a + 7 < 1000000) : MC yX8_init cX8_init 2 none (d + 1) 6 45 [.ref a, .ref pl] (exw h a (m_nw ew0 8 0)) (m_rn (exw h a (kX8_init a pl))) := by
  refine mc_of (by decide +kernel) (Nat.le_of_ble_eq_true rfl) ?_
  have o : m_O (m_nw ew0 8 0) 0 8 := ⟨Nat.le_of_ble_eq_true rfl, rfl⟩
  show MW (yX8_init.cls, cX8_init, 2, none, yX8_init.name, d + 1, 6, 45) 0 (0, 0) [(0, .ref a), (1, .ref pl)] [] (exw h a (m_nw ew0 8 0)) _
  refine mw_aload_n 0 dX8_init_0 rfl ?_
  refine mw_objI dX8_init_1 ml_X8_3 iml_obj col_obj (by show 1 ≤ d + 1; omega) (Nat.le_of_ble_eq_true rfl) ?_
  refine mw_aload_n 0 dX8_init_4 rfl ?_
  refine mw_iconst (v := 0) dX8_init_5 rfl ?_
  refine ke_puti 8 1 dX8_init_6 fl_X8_9 (by decide) (by decide) rfl rfl ⟨rfl, rfl⟩ o (fun o => ?_)
  refine mw_aload_n 0 dX8_init_9 rfl ?_
  refine mw_iconst (v := 0) dX8_init_10 rfl ?_
  refine ke_puti 8 2 dX8_init_11 fl_X8_15 (by decide) (by decide) rfl rfl ⟨rfl, rfl⟩ o (fun o => ?_)
  refine mw_aload_n 0 dX8_init_14 rfl ?_
  refine mw_iconst (v := 0) dX8_init_15 rfl ?_
  refine ke_puti 8 3 dX8_init_16 fl_X8_18 (by decide) (by decide) rfl rfl ⟨rfl, rfl⟩ o (fun o => ?_)
  refine mw_aload_n 0 dX8_init_19 rfl ?_
  refine mw_iconst (v := 0) dX8_init_20 rfl ?_
  refine ke_puti 8 4 dX8_init_21 fl_X8_21 (by decide) (by decide) rfl rfl ⟨rfl, rfl⟩ o (fun o => ?_)
  refine mw_aload_n 0 dX8_init_24 rfl ?_
  refine mw_iconst (v := 0) dX8_init_25 rfl ?_
  refine ke_puti 8 5 dX8_init_26 fl_X8_24 (by decide) (by decide) rfl rfl ⟨rfl, rfl⟩ o (fun o => ?_)
  refine mw_aload_n 0 dX8_init_29 rfl ?_
  refine mw_iconst (v := 0) dX8_init_30 rfl ?_
  refine ke_puti 8 6 dX8_init_31 fl_X8_27 (by decide) (by decide) rfl rfl ⟨rfl, rfl⟩ o (fun o => ?_)
  refine mw_aload_n 0 dX8_init_34 rfl ?_
  refine mw_iconst (v := 0) dX8_init_35 rfl ?_
  refine ke_puti 8 7 dX8_init_36 fl_X8_30 (by decide) (by decide) rfl rfl ⟨rfl, rfl⟩ o (fun o => ?_)
  refine mw_aload_n 0 dX8_init_39 rfl ?_
  refine mw_bipush (v := 10) dX8_init_40 (by decide) ?_
  refine ke_newa (t := 0) (N := 10) (z' := (1, 10)) 1 rfl dX8_init_42 al_int (fun G => rfl) (by decide) (by decide) (by decide) ⟨Nat.le_of_ble_eq_true rfl, Nat.le_of_ble_eq_true rfl⟩ rfl (by omega) rfl rfl o (fun o => ?_)
  refine ke_putr 8 8 dX8_init_44 fl_X8_33 (by decide) (by decide) rfl (Or.inr ⟨rfl, rfl, rfl⟩) o (fun o => ?_)
  refine mw_aload_n 0 dX8_init_47 rfl ?_
  refine mw_bipush (v := 10) dX8_init_48 (by decide) ?_
  refine ke_newa (t := 0) (N := 10) (z' := (2, 20)) 2 rfl dX8_init_50 al_int (fun G => rfl) (by decide) (by decide) (by decide) ⟨Nat.le_of_ble_eq_true rfl, Nat.le_of_ble_eq_true rfl⟩ rfl (by omega) rfl rfl o (fun o => ?_)
  refine ke_putr 8 9 dX8_init_52 fl_X8_37 (by decide) (by decide) rfl (Or.inr ⟨rfl, rfl, rfl⟩) o (fun o => ?_)
  refine mw_aload_n 0 dX8_init_55 rfl ?_
  refine mw_bipush (v := 10) dX8_init_56 (by decide) ?_
  refine ke_newa (t := 0) (N := 10) (z' := (3, 30)) 3 rfl dX8_init_58 al_int (fun G => rfl) (by decide) (by decide) (by decide) ⟨Nat.le_of_ble_eq_true rfl, Nat.le_of_ble_eq_true rfl⟩ rfl (by omega) rfl rfl o (fun o => ?_)
  refine ke_putr 8 10 dX8_init_60 fl_X8_40 (by decide) (by decide) rfl (Or.inr ⟨rfl, rfl, rfl⟩) o (fun o => ?_)
  refine mw_aload_n 0 dX8_init_63 rfl ?_
  refine mw_iconst (v := 5) dX8_init_64 rfl ?_
  refine ke_newa (t := 0) (N := 5) (z' := (4, 35)) 4 rfl dX8_init_65 al_int (fun G => rfl) (by decide) (by decide) (by decide) ⟨Nat.le_of_ble_eq_true rfl, Nat.le_of_ble_eq_true rfl⟩ rfl (by omega) rfl rfl o (fun o => ?_)
  refine ke_putr 8 11 dX8_init_67 fl_X8_43 (by decide) (by decide) rfl (Or.inr ⟨rfl, rfl, rfl⟩) o (fun o => ?_)
  refine mw_aload_n 0 dX8_init_70 rfl ?_
  refine mw_iconst (v := 5) dX8_init_71 rfl ?_
  refine ke_newa (t := 0) (N := 5) (z' := (5, 40)) 5 rfl dX8_init_72 al_int (fun G => rfl) (by decide) (by decide) (by decide) ⟨Nat.le_of_ble_eq_true rfl, Nat.le_of_ble_eq_true rfl⟩ rfl (by omega) rfl rfl o (fun o => ?_)
  refine ke_putr 8 12 dX8_init_74 fl_X8_46 (by decide) (by decide) rfl (Or.inr ⟨rfl, rfl, rfl⟩) o (fun o => ?_)
  refine mw_aload_n 0 dX8_init_77 rfl ?_
  refine mw_iconst (v := 5) dX8_init_78 rfl ?_
  refine ke_newa (t := 0) (N := 5) (z' := (6, 45)) 6 rfl dX8_init_79 al_int (fun G => rfl) (by decide) (by decide) (by decide) ⟨Nat.le_of_ble_eq_true rfl, Nat.le_of_ble_eq_true rfl⟩ rfl (by omega) rfl rfl o (fun o => ?_)
  refine ke_putr 8 13 dX8_init_81 fl_X8_49 (by decide) (by decide) rfl (Or.inr ⟨rfl, rfl, rfl⟩) o (fun o => ?_)
  refine mw_aload_n 0 dX8_init_84 rfl ?_
  refine mw_aload_n 1 dX8_init_85 rfl ?_
  refine ke_putr 8 0 dX8_init_86 fl_X8_52 (by decide) (by decide) rfl (Or.inr ⟨rfl, rfl, rfl⟩) o (fun o => ?_)
  exact mw_return dX8_init_89 rfl ⟨rfl, rfl⟩ ⟨rfl, rfl⟩
def kX7_init (a : Nat) : m_H := (m_sr (m_nw (m_sr (m_nw (m_sr (m_nw (m_sr (m_nw (m_si (m_si (m_si (m_nw ew0 7 0) 0 0 0) 0 1 0) 0 2 0) 100 40) 0 3 (some (a + 1))) 100 40) 0 4 (some (a + 2))) 100 40) 0 5 (some (a + 3))) 100 40) 0 6 (some (a + 4)))
set_option maxRecDepth 100000 in
set_option maxHeartbeats 4000000 in
theorem c_X7_init (d a : Nat) (h : m_H) (hm : a + 5 < 1000000) : MC yX7_init cX7_init 1 none (d + 1) 4 160 [.ref a] (exw h a (m_nw ew0 7 0)) (m_rn (exw h a (kX7_init a))) := by
  refine mc_of (by decide +kernel) (Nat.le_of_ble_eq_true rfl) ?_
  have o : m_O (m_nw ew0 7 0) 0 7 := ⟨Nat.le_of_ble_eq_true rfl, rfl⟩
  show MW (yX7_init.cls, cX7_init, 1, none, yX7_init.name, d + 1, 4, 160) 0 (0, 0) [(0, .ref a)] [] (exw h a (m_nw ew0 7 0)) _
  refine mw_aload_n 0 dX7_init_0 rfl ?_
  refine mw_objI dX7_init_1 ml_X7_3 iml_obj col_obj (by show 1 ≤ d + 1; omega) (Nat.le_of_ble_eq_true rfl) ?_
  refine mw_aload_n 0 dX7_init_4 rfl ?_
  refine mw_iconst (v := 0) dX7_init_5 rfl ?_
  refine ke_puti 7 0 dX7_init_6 fl_X7_9 (by decide) (by decide) rfl rfl ⟨rfl, rfl⟩ o (fun o => ?_)
  refine mw_aload_n 0 dX7_init_9 rfl ?_
  refine mw_iconst (v := 0) dX7_init_10 rfl ?_
  refine ke_puti 7 1 dX7_init_11 fl_X7_15 (by decide) (by decide) rfl rfl ⟨rfl, rfl⟩ o (fun o => ?_)
  refine mw_aload_n 0 dX7_init_14 rfl ?_
  refine mw_iconst (v := 0) dX7_init_15 rfl ?_
  refine ke_puti 7 2 dX7_init_16 fl_X7_19 (by decide) (by decide) rfl rfl ⟨rfl, rfl⟩ o (fun o => ?_)
  refine mw_aload_n 0 dX7_init_19 rfl ?_
  refine mw_bipush (v := 40) dX7_init_20 (by decide) ?_
  refine ke_newa (t := 0) (N := 40) (z' := (1, 40)) 1 rfl dX7_init_22 al_int (fun G => rfl) (by decide) (by decide) (by decide) ⟨Nat.le_of_ble_eq_true rfl, Nat.le_of_ble_eq_true rfl⟩ rfl (by omega) rfl rfl o (fun o => ?_)
  refine ke_putr 7 3 dX7_init_24 fl_X7_22 (by decide) (by decide) rfl (Or.inr ⟨rfl, rfl, rfl⟩) o (fun o => ?_)
  refine mw_aload_n 0 dX7_init_27 rfl ?_
  refine mw_bipush (v := 40) dX7_init_28 (by decide) ?_
  refine ke_newa (t := 0) (N := 40) (z' := (2, 80)) 2 rfl dX7_init_30 al_int (fun G => rfl) (by decide) (by decide) (by decide) ⟨Nat.le_of_ble_eq_true rfl, Nat.le_of_ble_eq_true rfl⟩ rfl (by omega) rfl rfl o (fun o => ?_)
  refine ke_putr 7 4 dX7_init_32 fl_X7_26 (by decide) (by decide) rfl (Or.inr ⟨rfl, rfl, rfl⟩) o (fun o => ?_)
  refine mw_aload_n 0 dX7_init_35 rfl ?_
  refine mw_bipush (v := 40) dX7_init_36 (by decide) ?_
  refine ke_newa (t := 0) (N := 40) (z' := (3, 120)) 3 rfl dX7_init_38 al_int (fun G => rfl) (by decide) (by decide) (by decide) ⟨Nat.le_of_ble_eq_true rfl, Nat.le_of_ble_eq_true rfl⟩ rfl (by omega) rfl rfl o (fun o => ?_)
  refine ke_putr 7 5 dX7_init_40 fl_X7_29 (by decide) (by decide) rfl (Or.inr ⟨rfl, rfl, rfl⟩) o (fun o => ?_)
  refine mw_aload_n 0 dX7_init_43 rfl ?_
  refine mw_bipush (v := 40) dX7_init_44 (by decide) ?_
  refine ke_newa (t := 0) (N := 40) (z' := (4, 160)) 4 rfl dX7_init_46 al_int (fun G => rfl) (by decide) (by decide) (by decide) ⟨Nat.le_of_ble_eq_true rfl, Nat.le_of_ble_eq_true rfl⟩ rfl (by omega) rfl rfl o (fun o => ?_)
  refine ke_putr 7 6 dX7_init_48 fl_X7_32 (by decide) (by decide) rfl (Or.inr ⟨rfl, rfl, rfl⟩) o (fun o => ?_)
  exact mw_return dX7_init_51 rfl ⟨rfl, rfl⟩ ⟨rfl, rfl⟩
def kX0_init (a : Nat) : m_H := (m_si (m_si (m_si (m_si (m_si (m_si (m_sr (m_nw (m_sr (m_nw (m_sr (m_nw (m_nw ew0 0 0) 100 40) 0 0 (some (a + 1))) 100 40) 0 1 (some (a + 2))) 100 40) 0 2 (some (a + 3))) 0 3 0) 0 4 0) 0 5 0) 0 6 0) 0 7 0) 0 8 0)
set_option maxRecDepth 100000 in
set_option maxHeartbeats 4000000 in
theorem c_X0_init (d a : Nat) (h : m_H) (hm : a + 4 < 1000000) : MC yX0_init cX0_init 1 none (d + 1) 3 120 [.ref a] (exw h a (m_nw ew0 0 0)) (m_rn (exw h a (kX0_init a))) := by
  refine mc_of (by decide +kernel) (Nat.le_of_ble_eq_true rfl) ?_
  have o : m_O (m_nw ew0 0 0) 0 0 := ⟨Nat.le_of_ble_eq_true rfl, rfl⟩
  show MW (yX0_init.cls, cX0_init, 1, none, yX0_init.name, d + 1, 3, 120) 0 (0, 0) [(0, .ref a)] [] (exw h a (m_nw ew0 0 0)) _
  refine mw_aload_n 0 dX0_init_0 rfl ?_
  refine mw_objI dX0_init_1 ml_X0_3 iml_obj col_obj (by show 1 ≤ d + 1; omega) (Nat.le_of_ble_eq_true rfl) ?_
  refine mw_aload_n 0 dX0_init_4 rfl ?_
  refine mw_bipush (v := 40) dX0_init_5 (by decide) ?_
  refine ke_newa (t := 0) (N := 40) (z' := (1, 40)) 1 rfl dX0_init_7 al_int (fun G => rfl) (by decide) (by decide) (by decide) ⟨Nat.le_of_ble_eq_true rfl, Nat.le_of_ble_eq_true rfl⟩ rfl (by omega) rfl rfl o (fun o => ?_)
  refine ke_putr 0 0 dX0_init_9 fl_X0_9 (by decide) (by decide) rfl (Or.inr ⟨rfl, rfl, rfl⟩) o (fun o => ?_)
  refine mw_aload_n 0 dX0_init_12 rfl ?_
  refine mw_bipush (v := 40) dX0_init_13 (by decide) ?_
  refine ke_newa (t := 0) (N := 40) (z' := (2, 80)) 2 rfl dX0_init_15 al_int (fun G => rfl) (by decide) (by decide) (by decide) ⟨Nat.le_of_ble_eq_true rfl, Nat.le_of_ble_eq_true rfl⟩ rfl (by omega) rfl rfl o (fun o => ?_)
  refine ke_putr 0 1 dX0_init_17 fl_X0_15 (by decide) (by decide) rfl (Or.inr ⟨rfl, rfl, rfl⟩) o (fun o => ?_)
  refine mw_aload_n 0 dX0_init_20 rfl ?_
  refine mw_bipush (v := 40) dX0_init_21 (by decide) ?_
  refine ke_newa (t := 0) (N := 40) (z' := (3, 120)) 3 rfl dX0_init_23 al_int (fun G => rfl) (by decide) (by decide) (by decide) ⟨Nat.le_of_ble_eq_true rfl, Nat.le_of_ble_eq_true rfl⟩ rfl (by omega) rfl rfl o (fun o => ?_)
  refine ke_putr 0 2 dX0_init_25 fl_X0_18 (by decide) (by decide) rfl (Or.inr ⟨rfl, rfl, rfl⟩) o (fun o => ?_)
  refine mw_aload_n 0 dX0_init_28 rfl ?_
  refine mw_iconst (v := 0) dX0_init_29 rfl ?_
  refine ke_puti 0 3 dX0_init_30 fl_X0_21 (by decide) (by decide) rfl rfl ⟨rfl, rfl⟩ o (fun o => ?_)
  refine mw_aload_n 0 dX0_init_33 rfl ?_
  refine mw_iconst (v := 0) dX0_init_34 rfl ?_
  refine ke_puti 0 4 dX0_init_35 fl_X0_25 (by decide) (by decide) rfl rfl ⟨rfl, rfl⟩ o (fun o => ?_)
  refine mw_aload_n 0 dX0_init_38 rfl ?_
  refine mw_iconst (v := 0) dX0_init_39 rfl ?_
  refine ke_puti 0 5 dX0_init_40 fl_X0_29 (by decide) (by decide) rfl rfl ⟨rfl, rfl⟩ o (fun o => ?_)
  refine mw_aload_n 0 dX0_init_43 rfl ?_
  refine mw_iconst (v := 0) dX0_init_44 rfl ?_
  refine ke_puti 0 6 dX0_init_45 fl_X0_32 (by decide) (by decide) rfl rfl ⟨rfl, rfl⟩ o (fun o => ?_)
  refine mw_aload_n 0 dX0_init_48 rfl ?_
  refine mw_iconst (v := 0) dX0_init_49 rfl ?_
  refine ke_puti 0 7 dX0_init_50 fl_X0_35 (by decide) (by decide) rfl rfl ⟨rfl, rfl⟩ o (fun o => ?_)
  refine mw_aload_n 0 dX0_init_53 rfl ?_
  refine mw_iconst (v := 0) dX0_init_54 rfl ?_
  refine ke_puti 0 8 dX0_init_55 fl_X0_38 (by decide) (by decide) rfl rfl ⟨rfl, rfl⟩ o (fun o => ?_)
  exact mw_return dX0_init_58 rfl ⟨rfl, rfl⟩ ⟨rfl, rfl⟩
def kX1_init (a : Nat) : m_H := (m_sr (m_nw (m_sr (m_nw (m_si (m_sr (m_nw (m_si (m_sr (m_nw (m_nw ew0 1 0) 100 16) 0 0 (some (a + 1))) 0 1 0) 100 10) 0 2 (some (a + 2))) 0 3 0) 100 12) 0 4 (some (a + 3))) 100 10) 0 5 (some (a + 4)))
set_option maxRecDepth 100000 in
set_option maxHeartbeats 4000000 in
theorem c_X1_init (d a : Nat) (h : m_H) (hm : a + 5 < 1000000) : MC yX1_init cX1_init 1 none (d + 1) 4 48 [.ref a] (exw h a (m_nw ew0 1 0)) (m_rn (exw h a (kX1_init a))) := by
  refine mc_of (by decide +kernel) (Nat.le_of_ble_eq_true rfl) ?_
  have o : m_O (m_nw ew0 1 0) 0 1 := ⟨Nat.le_of_ble_eq_true rfl, rfl⟩
  show MW (yX1_init.cls, cX1_init, 1, none, yX1_init.name, d + 1, 4, 48) 0 (0, 0) [(0, .ref a)] [] (exw h a (m_nw ew0 1 0)) _
  refine mw_aload_n 0 dX1_init_0 rfl ?_
  refine mw_objI dX1_init_1 ml_X1_3 iml_obj col_obj (by show 1 ≤ d + 1; omega) (Nat.le_of_ble_eq_true rfl) ?_
  refine mw_aload_n 0 dX1_init_4 rfl ?_
  refine mw_bipush (v := 16) dX1_init_5 (by decide) ?_
  refine ke_newa (t := 0) (N := 16) (z' := (1, 16)) 1 rfl dX1_init_7 al_int (fun G => rfl) (by decide) (by decide) (by decide) ⟨Nat.le_of_ble_eq_true rfl, Nat.le_of_ble_eq_true rfl⟩ rfl (by omega) rfl rfl o (fun o => ?_)
  refine ke_putr 1 0 dX1_init_9 fl_X1_9 (by decide) (by decide) rfl (Or.inr ⟨rfl, rfl, rfl⟩) o (fun o => ?_)
  refine mw_aload_n 0 dX1_init_12 rfl ?_
  refine mw_iconst (v := 0) dX1_init_13 rfl ?_
  refine ke_puti 1 1 dX1_init_14 fl_X1_15 (by decide) (by decide) rfl rfl ⟨rfl, rfl⟩ o (fun o => ?_)
  refine mw_aload_n 0 dX1_init_17 rfl ?_
  refine mw_bipush (v := 10) dX1_init_18 (by decide) ?_
  refine ke_newa (t := 0) (N := 10) (z' := (2, 26)) 2 rfl dX1_init_20 al_int (fun G => rfl) (by decide) (by decide) (by decide) ⟨Nat.le_of_ble_eq_true rfl, Nat.le_of_ble_eq_true rfl⟩ rfl (by omega) rfl rfl o (fun o => ?_)
  refine ke_putr 1 2 dX1_init_22 fl_X1_19 (by decide) (by decide) rfl (Or.inr ⟨rfl, rfl, rfl⟩) o (fun o => ?_)
  refine mw_aload_n 0 dX1_init_25 rfl ?_
  refine mw_iconst (v := 0) dX1_init_26 rfl ?_
  refine ke_puti 1 3 dX1_init_27 fl_X1_22 (by decide) (by decide) rfl rfl ⟨rfl, rfl⟩ o (fun o => ?_)
  refine mw_aload_n 0 dX1_init_30 rfl ?_
  refine mw_bipush (v := 12) dX1_init_31 (by decide) ?_
  refine ke_newa (t := 0) (N := 12) (z' := (3, 38)) 3 rfl dX1_init_33 al_int (fun G => rfl) (by decide) (by decide) (by decide) ⟨Nat.le_of_ble_eq_true rfl, Nat.le_of_ble_eq_true rfl⟩ rfl (by omega) rfl rfl o (fun o => ?_)
  refine ke_putr 1 4 dX1_init_35 fl_X1_25 (by decide) (by decide) rfl (Or.inr ⟨rfl, rfl, rfl⟩) o (fun o => ?_)
  refine mw_aload_n 0 dX1_init_38 rfl ?_
  refine mw_bipush (v := 10) dX1_init_39 (by decide) ?_
  refine ke_newa (t := 0) (N := 10) (z' := (4, 48)) 4 rfl dX1_init_41 al_int (fun G => rfl) (by decide) (by decide) (by decide) ⟨Nat.le_of_ble_eq_true rfl, Nat.le_of_ble_eq_true rfl⟩ rfl (by omega) rfl rfl o (fun o => ?_)
  refine ke_putr 1 5 dX1_init_43 fl_X1_28 (by decide) (by decide) rfl (Or.inr ⟨rfl, rfl, rfl⟩) o (fun o => ?_)
  exact mw_return dX1_init_46 rfl ⟨rfl, rfl⟩ ⟨rfl, rfl⟩
def kX2_init (a : Nat) : m_H := (m_si (m_si (m_sr (m_nw (m_nw ew0 2 0) 100 25) 0 0 (some (a + 1))) 0 1 0) 0 2 (-1))
set_option maxRecDepth 100000 in
set_option maxHeartbeats 4000000 in
theorem c_X2_init (d a : Nat) (h : m_H) (hm : a + 2 < 1000000) : MC yX2_init cX2_init 1 none (d + 1) 1 25 [.ref a] (exw h a (m_nw ew0 2 0)) (m_rn (exw h a (kX2_init a))) := by
  refine mc_of (by decide +kernel) (Nat.le_of_ble_eq_true rfl) ?_
  have o : m_O (m_nw ew0 2 0) 0 2 := ⟨Nat.le_of_ble_eq_true rfl, rfl⟩
  show MW (yX2_init.cls, cX2_init, 1, none, yX2_init.name, d + 1, 1, 25) 0 (0, 0) [(0, .ref a)] [] (exw h a (m_nw ew0 2 0)) _
  refine mw_aload_n 0 dX2_init_0 rfl ?_
  refine mw_objI dX2_init_1 ml_X2_3 iml_obj col_obj (by show 1 ≤ d + 1; omega) (Nat.le_of_ble_eq_true rfl) ?_
  refine mw_aload_n 0 dX2_init_4 rfl ?_
  refine mw_bipush (v := 25) dX2_init_5 (by decide) ?_
  refine ke_newa (t := 0) (N := 25) (z' := (1, 25)) 1 rfl dX2_init_7 al_int (fun G => rfl) (by decide) (by decide) (by decide) ⟨Nat.le_of_ble_eq_true rfl, Nat.le_of_ble_eq_true rfl⟩ rfl (by omega) rfl rfl o (fun o => ?_)
  refine ke_putr 2 0 dX2_init_9 fl_X2_9 (by decide) (by decide) rfl (Or.inr ⟨rfl, rfl, rfl⟩) o (fun o => ?_)
  refine mw_aload_n 0 dX2_init_12 rfl ?_
  refine mw_iconst (v := 0) dX2_init_13 rfl ?_
  refine ke_puti 2 1 dX2_init_14 fl_X2_15 (by decide) (by decide) rfl rfl ⟨rfl, rfl⟩ o (fun o => ?_)
  refine mw_aload_n 0 dX2_init_17 rfl ?_
  refine mw_iconst (v := -1) dX2_init_18 rfl ?_
  refine ke_puti 2 2 dX2_init_19 fl_X2_19 (by decide) (by decide) rfl rfl ⟨rfl, rfl⟩ o (fun o => ?_)
  exact mw_return dX2_init_22 rfl ⟨rfl, rfl⟩ ⟨rfl, rfl⟩
def kX9_init (a : Nat) : m_H := (m_si (m_sr (m_nw (m_nw ew0 9 0) 100 26) 0 0 (some (a + 1))) 0 1 0)
set_option maxRecDepth 100000 in
set_option maxHeartbeats 4000000 in
theorem c_X9_init (d a : Nat) (h : m_H) (hm : a + 2 < 1000000) : MC yX9_init cX9_init 1 none (d + 1) 1 26 [.ref a] (exw h a (m_nw ew0 9 0)) (m_rn (exw h a (kX9_init a))) := by
  refine mc_of (by decide +kernel) (Nat.le_of_ble_eq_true rfl) ?_
  have o : m_O (m_nw ew0 9 0) 0 9 := ⟨Nat.le_of_ble_eq_true rfl, rfl⟩
  show MW (yX9_init.cls, cX9_init, 1, none, yX9_init.name, d + 1, 1, 26) 0 (0, 0) [(0, .ref a)] [] (exw h a (m_nw ew0 9 0)) _
  refine mw_aload_n 0 dX9_init_0 rfl ?_
  refine mw_objI dX9_init_1 ml_X9_3 iml_obj col_obj (by show 1 ≤ d + 1; omega) (Nat.le_of_ble_eq_true rfl) ?_
  refine mw_aload_n 0 dX9_init_4 rfl ?_
  refine mw_bipush (v := 26) dX9_init_5 (by decide) ?_
  refine ke_newa (t := 0) (N := 26) (z' := (1, 26)) 1 rfl dX9_init_7 al_int (fun G => rfl) (by decide) (by decide) (by decide) ⟨Nat.le_of_ble_eq_true rfl, Nat.le_of_ble_eq_true rfl⟩ rfl (by omega) rfl rfl o (fun o => ?_)
  refine ke_putr 9 0 dX9_init_9 fl_X9_9 (by decide) (by decide) rfl (Or.inr ⟨rfl, rfl, rfl⟩) o (fun o => ?_)
  refine mw_aload_n 0 dX9_init_12 rfl ?_
  refine mw_iconst (v := 0) dX9_init_13 rfl ?_
  refine ke_puti 9 1 dX9_init_14 fl_X9_15 (by decide) (by decide) rfl rfl ⟨rfl, rfl⟩ o (fun o => ?_)
  exact mw_return dX9_init_17 rfl ⟨rfl, rfl⟩ ⟨rfl, rfl⟩
def kX6_init (a : Nat) : m_H := (m_si (m_si (m_sr (exw (m_nw ew0 6 0) 1 (kX5_init (a + 1))) 0 0 (some (a + 1))) 0 1 0) 0 2 0)
set_option maxRecDepth 100000 in
set_option maxHeartbeats 4000000 in
theorem c_X6_init (d a : Nat) (h : m_H) (hm : a + 22 < 1000000) : MC yX6_init cX6_init 1 none (d + 2) 21 362 [.ref a] (exw h a (m_nw ew0 6 0)) (m_rn (exw h a (kX6_init a))) := by
  refine mc_of (by decide +kernel) (Nat.le_of_ble_eq_true rfl) ?_
  have o : m_O (m_nw ew0 6 0) 0 6 := ⟨Nat.le_of_ble_eq_true rfl, rfl⟩
  show MW (yX6_init.cls, cX6_init, 1, none, yX6_init.name, d + 2, 21, 362) 0 (0, 0) [(0, .ref a)] [] (exw h a (m_nw ew0 6 0)) _
  refine mw_aload_n 0 dX6_init_0 rfl ?_
  refine mw_objI dX6_init_1 ml_X6_3 iml_obj col_obj (by show 1 ≤ d + 2; omega) (Nat.le_of_ble_eq_true rfl) ?_
  refine mw_aload_n 0 dX6_init_4 rfl ?_
  refine ke_new (z' := (1, 20)) 5 1 dX6_init_5 kl_X6_9 il_X5 in_X5 (by decide) ⟨Nat.le_of_ble_eq_true rfl, Nat.le_of_ble_eq_true rfl⟩ rfl (by omega) rfl ?_
  refine mw_dup dX6_init_8 rfl ?_
  refine ke_init (rest := [.ref (a + 1), .ref a]) (z' := (21, 362)) (C := (kX5_init (a + 1))) 1 [] (c_X5_init d (a + 1) _ (by omega)) mY_X5_init dX6_init_9 (Or.inl ml_X6_11) (Nat.le_of_ble_eq_true rfl) rfl rfl rfl (Nat.le_of_ble_eq_true rfl) ⟨Nat.le_of_ble_eq_true rfl, Nat.le_of_ble_eq_true rfl⟩ rfl o (by decide) (fun o => ?_)
  refine ke_putr 6 0 dX6_init_12 fl_X6_12 (by decide) (by decide) rfl (Or.inr ⟨rfl, rfl, rfl⟩) o (fun o => ?_)
  refine mw_aload_n 0 dX6_init_15 rfl ?_
  refine mw_iconst (v := 0) dX6_init_16 rfl ?_
  refine ke_puti 6 1 dX6_init_17 fl_X6_18 (by decide) (by decide) rfl rfl ⟨rfl, rfl⟩ o (fun o => ?_)
  refine mw_aload_n 0 dX6_init_20 rfl ?_
  refine mw_iconst (v := 0) dX6_init_21 rfl ?_
  refine ke_puti 6 2 dX6_init_22 fl_X6_22 (by decide) (by decide) rfl rfl ⟨rfl, rfl⟩ o (fun o => ?_)
  exact mw_return dX6_init_25 rfl ⟨rfl, rfl⟩ ⟨rfl, rfl⟩
def kX3_init (a pl : Nat) : m_H := (m_sr (exw (m_sr (exw (m_sr (exw (m_sr (exw (m_sr (exw (m_sr (exw (m_sr (exw (m_sr (exw (m_sr (exw (m_si (m_sr (m_nw (m_nw ew0 3 0) 104 9) 0 0 (some (a + 1))) 0 1 0) 2 (kX8_init (a + 2) (pl))) 1 0 (some (a + 2))) 9 (kX8_init (a + 9) (pl))) 1 1 (some (a + 9))) 16 (kX8_init (a + 16) (pl))) 1 2 (some (a + 16))) 23 (kX8_init (a + 23) (pl))) 1 3 (some (a + 23))) 30 (kX8_init (a + 30) (pl))) 1 4 (some (a + 30))) 37 (kX8_init (a + 37) (pl))) 1 5 (some (a + 37))) 44 (kX8_init (a + 44) (pl))) 1 6 (some (a + 44))) 51 (kX8_init (a + 51) (pl))) 1 7 (some (a + 51))) 58 (kX8_init (a + 58) (pl))) 1 8 (some (a + 58)))
set_option maxRecDepth 100000 in
set_option maxHeartbeats 4000000 in
theorem c_X3_init (d a pl : Nat) (h : m_H) (hm : a + 65 < 1000000) : MC yX3_init cX3_init 3 none (d + 2) 64 540 [.ref a, .ref pl] (exw h a (m_nw ew0 3 0)) (m_rn (exw h a (kX3_init a pl))) := by
  refine mc_of (by decide +kernel) (Nat.le_of_ble_eq_true rfl) ?_
  have o : m_O (m_nw ew0 3 0) 0 3 := ⟨Nat.le_of_ble_eq_true rfl, rfl⟩
  show MW (yX3_init.cls, cX3_init, 3, none, yX3_init.name, d + 2, 64, 540) 0 (0, 0) [(0, .ref a), (1, .ref pl)] [] (exw h a (m_nw ew0 3 0)) _
  refine mw_aload_n 0 dX3_init_0 rfl ?_
  refine mw_objI dX3_init_1 ml_X3_3 iml_obj col_obj (by show 1 ≤ d + 2; omega) (Nat.le_of_ble_eq_true rfl) ?_
  refine mw_aload_n 0 dX3_init_4 rfl ?_
  refine mw_bipush (v := 9) dX3_init_5 (by decide) ?_
  refine ke_newR (t := 4) (ci := 8) (N := 9) (z' := (1, 9)) 1 rfl (Or.inl ⟨rfl, rfl⟩) dX3_init_7 kl_X3_9 (by decide) (by decide) ⟨Nat.le_of_ble_eq_true rfl, Nat.le_of_ble_eq_true rfl⟩ rfl (by omega) rfl o (fun o => ?_)
  refine ke_putr 3 0 dX3_init_10 fl_X3_11 (by decide) (by decide) rfl (Or.inr ⟨rfl, rfl, rfl⟩) o (fun o => ?_)
  refine mw_aload_n 0 dX3_init_13 rfl ?_
  refine mw_iconst (v := 0) dX3_init_14 rfl ?_
  refine ke_puti 3 1 dX3_init_15 fl_X3_17 (by decide) (by decide) rfl rfl ⟨rfl, rfl⟩ o (fun o => ?_)
  refine mw_iconst (v := 0) dX3_init_18 rfl ?_
  refine mw_istore_n [(2, .int 0), (0, .ref a), (1, .ref pl)] dX3_init_19 (Nat.le_of_ble_eq_true rfl) rfl ?_
  refine mw_iload_n 0 dX3_init_20 rfl ?_
  refine mw_aload_n 1 dX3_init_21 rfl ?_
  refine ke_getr (b := a + 1) 3 0 dX3_init_22 fl_X3_11 (by decide) (by decide) rfl o rfl ?_
  refine ke_alen (n := 9) (t := 4) 1 (by decide) dX3_init_25 ⟨Nat.le_of_ble_eq_true rfl, rfl⟩ ?_
  refine mw_icmp_ge (tgt := 49) dX3_init_26 (by decide) (fun q => absurd q (by decide)) (fun _ => ?_)
  refine mw_aload_n 1 dX3_init_29 rfl ?_
  refine ke_getr (b := a + 1) 3 0 dX3_init_30 fl_X3_11 (by decide) (by decide) rfl o rfl ?_
  refine mw_iload_n 0 dX3_init_33 rfl ?_
  refine ke_new (z' := (2, 23)) 8 2 dX3_init_34 kl_X3_9 il_X8 in_X8 (by decide) ⟨Nat.le_of_ble_eq_true rfl, Nat.le_of_ble_eq_true rfl⟩ rfl (by omega) rfl ?_
  refine mw_dup dX3_init_37 rfl ?_
  refine mw_aload_n 2 dX3_init_38 rfl ?_
  refine ke_init (rest := [.ref (a + 2), .int 0, .ref (a + 1)]) (z' := (8, 68)) (C := (kX8_init (a + 2) (pl))) 2 [.ref pl] (c_X8_init d (a + 2) (pl) _ (by omega)) mY_X8_init dX3_init_39 (Or.inl ml_X3_21) (Nat.le_of_ble_eq_true rfl) rfl rfl rfl (Nat.le_of_ble_eq_true rfl) ⟨Nat.le_of_ble_eq_true rfl, Nat.le_of_ble_eq_true rfl⟩ rfl o (by decide) (fun o => ?_)
  refine ke_aast (t := 4) (ci := 8) (n := 9) 1 0 2 (Or.inl ⟨rfl, rfl⟩) dX3_init_42 ⟨Nat.le_of_ble_eq_true rfl, rfl⟩ (by decide) (by decide) rfl rfl ⟨Nat.le_of_ble_eq_true rfl, rfl⟩ o (fun o => ?_)
  refine mw_iinc 0 1 [(2, .int 1), (0, .ref a), (1, .ref pl)] dX3_init_43 rfl (by decide) (Nat.le_of_ble_eq_true rfl) rfl ?_
  refine mw_goto (tgt := 20) dX3_init_46 (by decide) ?_
  refine mw_iload_n 0 dX3_init_20 rfl ?_
  refine mw_aload_n 1 dX3_init_21 rfl ?_
  refine ke_getr (b := a + 1) 3 0 dX3_init_22 fl_X3_11 (by decide) (by decide) rfl o rfl ?_
  refine ke_alen (n := 9) (t := 4) 1 (by decide) dX3_init_25 ⟨Nat.le_of_ble_eq_true rfl, rfl⟩ ?_
  refine mw_icmp_ge (tgt := 49) dX3_init_26 (by decide) (fun q => absurd q (by decide)) (fun _ => ?_)
  refine mw_aload_n 1 dX3_init_29 rfl ?_
  refine ke_getr (b := a + 1) 3 0 dX3_init_30 fl_X3_11 (by decide) (by decide) rfl o rfl ?_
  refine mw_iload_n 0 dX3_init_33 rfl ?_
  refine ke_new (z' := (9, 82)) 8 9 dX3_init_34 kl_X3_9 il_X8 in_X8 (by decide) ⟨Nat.le_of_ble_eq_true rfl, Nat.le_of_ble_eq_true rfl⟩ rfl (by omega) rfl ?_
  refine mw_dup dX3_init_37 rfl ?_
  refine mw_aload_n 2 dX3_init_38 rfl ?_
  refine ke_init (rest := [.ref (a + 9), .int 1, .ref (a + 1)]) (z' := (15, 127)) (C := (kX8_init (a + 9) (pl))) 9 [.ref pl] (c_X8_init d (a + 9) (pl) _ (by omega)) mY_X8_init dX3_init_39 (Or.inl ml_X3_21) (Nat.le_of_ble_eq_true rfl) rfl rfl rfl (Nat.le_of_ble_eq_true rfl) ⟨Nat.le_of_ble_eq_true rfl, Nat.le_of_ble_eq_true rfl⟩ rfl o (by decide) (fun o => ?_)
  refine ke_aast (t := 4) (ci := 8) (n := 9) 1 1 9 (Or.inl ⟨rfl, rfl⟩) dX3_init_42 ⟨Nat.le_of_ble_eq_true rfl, rfl⟩ (by decide) (by decide) rfl rfl ⟨Nat.le_of_ble_eq_true rfl, rfl⟩ o (fun o => ?_)
  refine mw_iinc 0 2 [(2, .int 2), (0, .ref a), (1, .ref pl)] dX3_init_43 rfl (by decide) (Nat.le_of_ble_eq_true rfl) rfl ?_
  refine mw_goto (tgt := 20) dX3_init_46 (by decide) ?_
  refine mw_iload_n 0 dX3_init_20 rfl ?_
  refine mw_aload_n 1 dX3_init_21 rfl ?_
  refine ke_getr (b := a + 1) 3 0 dX3_init_22 fl_X3_11 (by decide) (by decide) rfl o rfl ?_
  refine ke_alen (n := 9) (t := 4) 1 (by decide) dX3_init_25 ⟨Nat.le_of_ble_eq_true rfl, rfl⟩ ?_
  refine mw_icmp_ge (tgt := 49) dX3_init_26 (by decide) (fun q => absurd q (by decide)) (fun _ => ?_)
  refine mw_aload_n 1 dX3_init_29 rfl ?_
  refine ke_getr (b := a + 1) 3 0 dX3_init_30 fl_X3_11 (by decide) (by decide) rfl o rfl ?_
  refine mw_iload_n 0 dX3_init_33 rfl ?_
  refine ke_new (z' := (16, 141)) 8 16 dX3_init_34 kl_X3_9 il_X8 in_X8 (by decide) ⟨Nat.le_of_ble_eq_true rfl, Nat.le_of_ble_eq_true rfl⟩ rfl (by omega) rfl ?_
  refine mw_dup dX3_init_37 rfl ?_
  refine mw_aload_n 2 dX3_init_38 rfl ?_
  refine ke_init (rest := [.ref (a + 16), .int 2, .ref (a + 1)]) (z' := (22, 186)) (C := (kX8_init (a + 16) (pl))) 16 [.ref pl] (c_X8_init d (a + 16) (pl) _ (by omega)) mY_X8_init dX3_init_39 (Or.inl ml_X3_21) (Nat.le_of_ble_eq_true rfl) rfl rfl rfl (Nat.le_of_ble_eq_true rfl) ⟨Nat.le_of_ble_eq_true rfl, Nat.le_of_ble_eq_true rfl⟩ rfl o (by decide) (fun o => ?_)
  refine ke_aast (t := 4) (ci := 8) (n := 9) 1 2 16 (Or.inl ⟨rfl, rfl⟩) dX3_init_42 ⟨Nat.le_of_ble_eq_true rfl, rfl⟩ (by decide) (by decide) rfl rfl ⟨Nat.le_of_ble_eq_true rfl, rfl⟩ o (fun o => ?_)
  refine mw_iinc 0 3 [(2, .int 3), (0, .ref a), (1, .ref pl)] dX3_init_43 rfl (by decide) (Nat.le_of_ble_eq_true rfl) rfl ?_
  refine mw_goto (tgt := 20) dX3_init_46 (by decide) ?_
  refine mw_iload_n 0 dX3_init_20 rfl ?_
  refine mw_aload_n 1 dX3_init_21 rfl ?_
  refine ke_getr (b := a + 1) 3 0 dX3_init_22 fl_X3_11 (by decide) (by decide) rfl o rfl ?_
  refine ke_alen (n := 9) (t := 4) 1 (by decide) dX3_init_25 ⟨Nat.le_of_ble_eq_true rfl, rfl⟩ ?_
  refine mw_icmp_ge (tgt := 49) dX3_init_26 (by decide) (fun q => absurd q (by decide)) (fun _ => ?_)
  refine mw_aload_n 1 dX3_init_29 rfl ?_
  refine ke_getr (b := a + 1) 3 0 dX3_init_30 fl_X3_11 (by decide) (by decide) rfl o rfl ?_
  refine mw_iload_n 0 dX3_init_33 rfl ?_
  refine ke_new (z' := (23, 200)) 8 23 dX3_init_34 kl_X3_9 il_X8 in_X8 (by decide) ⟨Nat.le_of_ble_eq_true rfl, Nat.le_of_ble_eq_true rfl⟩ rfl (by omega) rfl ?_
  refine mw_dup dX3_init_37 rfl ?_
  refine mw_aload_n 2 dX3_init_38 rfl ?_
  refine ke_init (rest := [.ref (a + 23), .int 3, .ref (a + 1)]) (z' := (29, 245)) (C := (kX8_init (a + 23) (pl))) 23 [.ref pl] (c_X8_init d (a + 23) (pl) _ (by omega)) mY_X8_init dX3_init_39 (Or.inl ml_X3_21) (Nat.le_of_ble_eq_true rfl) rfl rfl rfl (Nat.le_of_ble_eq_true rfl) ⟨Nat.le_of_ble_eq_true rfl, Nat.le_of_ble_eq_true rfl⟩ rfl o (by decide) (fun o => ?_)
  refine ke_aast (t := 4) (ci := 8) (n := 9) 1 3 23 (Or.inl ⟨rfl, rfl⟩) dX3_init_42 ⟨Nat.le_of_ble_eq_true rfl, rfl⟩ (by decide) (by decide) rfl rfl ⟨Nat.le_of_ble_eq_true rfl, rfl⟩ o (fun o => ?_)
  refine mw_iinc 0 4 [(2, .int 4), (0, .ref a), (1, .ref pl)] dX3_init_43 rfl (by decide) (Nat.le_of_ble_eq_true rfl) rfl ?_
  refine mw_goto (tgt := 20) dX3_init_46 (by decide) ?_
  refine mw_iload_n 0 dX3_init_20 rfl ?_
  refine mw_aload_n 1 dX3_init_21 rfl ?_
  refine ke_getr (b := a + 1) 3 0 dX3_init_22 fl_X3_11 (by decide) (by decide) rfl o rfl ?_
  refine ke_alen (n := 9) (t := 4) 1 (by decide) dX3_init_25 ⟨Nat.le_of_ble_eq_true rfl, rfl⟩ ?_
  refine mw_icmp_ge (tgt := 49) dX3_init_26 (by decide) (fun q => absurd q (by decide)) (fun _ => ?_)
  refine mw_aload_n 1 dX3_init_29 rfl ?_
  refine ke_getr (b := a + 1) 3 0 dX3_init_30 fl_X3_11 (by decide) (by decide) rfl o rfl ?_
  refine mw_iload_n 0 dX3_init_33 rfl ?_
  refine ke_new (z' := (30, 259)) 8 30 dX3_init_34 kl_X3_9 il_X8 in_X8 (by decide) ⟨Nat.le_of_ble_eq_true rfl, Nat.le_of_ble_eq_true rfl⟩ rfl (by omega) rfl ?_
  refine mw_dup dX3_init_37 rfl ?_
  refine mw_aload_n 2 dX3_init_38 rfl ?_
  refine ke_init (rest := [.ref (a + 30), .int 4, .ref (a + 1)]) (z' := (36, 304)) (C := (kX8_init (a + 30) (pl))) 30 [.ref pl] (c_X8_init d (a + 30) (pl) _ (by omega)) mY_X8_init dX3_init_39 (Or.inl ml_X3_21) (Nat.le_of_ble_eq_true rfl) rfl rfl rfl (Nat.le_of_ble_eq_true rfl) ⟨Nat.le_of_ble_eq_true rfl, Nat.le_of_ble_eq_true rfl⟩ rfl o (by decide) (fun o => ?_)
  refine ke_aast (t := 4) (ci := 8) (n := 9) 1 4 30 (Or.inl ⟨rfl, rfl⟩) dX3_init_42 ⟨Nat.le_of_ble_eq_true rfl, rfl⟩ (by decide) (by decide) rfl rfl ⟨Nat.le_of_ble_eq_true rfl, rfl⟩ o (fun o => ?_)
  refine mw_iinc 0 5 [(2, .int 5), (0, .ref a), (1, .ref pl)] dX3_init_43 rfl (by decide) (Nat.le_of_ble_eq_true rfl) rfl ?_
  refine mw_goto (tgt := 20) dX3_init_46 (by decide) ?_
  refine mw_iload_n 0 dX3_init_20 rfl ?_
  refine mw_aload_n 1 dX3_init_21 rfl ?_
  refine ke_getr (b := a + 1) 3 0 dX3_init_22 fl_X3_11 (by decide) (by decide) rfl o rfl ?_
  refine ke_alen (n := 9) (t := 4) 1 (by decide) dX3_init_25 ⟨Nat.le_of_ble_eq_true rfl, rfl⟩ ?_
  refine mw_icmp_ge (tgt := 49) dX3_init_26 (by decide) (fun q => absurd q (by decide)) (fun _ => ?_)
  refine mw_aload_n 1 dX3_init_29 rfl ?_
  refine ke_getr (b := a + 1) 3 0 dX3_init_30 fl_X3_11 (by decide) (by decide) rfl o rfl ?_
  refine mw_iload_n 0 dX3_init_33 rfl ?_
  refine ke_new (z' := (37, 318)) 8 37 dX3_init_34 kl_X3_9 il_X8 in_X8 (by decide) ⟨Nat.le_of_ble_eq_true rfl, Nat.le_of_ble_eq_true rfl⟩ rfl (by omega) rfl ?_
  refine mw_dup dX3_init_37 rfl ?_
  refine mw_aload_n 2 dX3_init_38 rfl ?_
  refine ke_init (rest := [.ref (a + 37), .int 5, .ref (a + 1)]) (z' := (43, 363)) (C := (kX8_init (a + 37) (pl))) 37 [.ref pl] (c_X8_init d (a + 37) (pl) _ (by omega)) mY_X8_init dX3_init_39 (Or.inl ml_X3_21) (Nat.le_of_ble_eq_true rfl) rfl rfl rfl (Nat.le_of_ble_eq_true rfl) ⟨Nat.le_of_ble_eq_true rfl, Nat.le_of_ble_eq_true rfl⟩ rfl o (by decide) (fun o => ?_)
  refine ke_aast (t := 4) (ci := 8) (n := 9) 1 5 37 (Or.inl ⟨rfl, rfl⟩) dX3_init_42 ⟨Nat.le_of_ble_eq_true rfl, rfl⟩ (by decide) (by decide) rfl rfl ⟨Nat.le_of_ble_eq_true rfl, rfl⟩ o (fun o => ?_)
  refine mw_iinc 0 6 [(2, .int 6), (0, .ref a), (1, .ref pl)] dX3_init_43 rfl (by decide) (Nat.le_of_ble_eq_true rfl) rfl ?_
  refine mw_goto (tgt := 20) dX3_init_46 (by decide) ?_
  refine mw_iload_n 0 dX3_init_20 rfl ?_
  refine mw_aload_n 1 dX3_init_21 rfl ?_
  refine ke_getr (b := a + 1) 3 0 dX3_init_22 fl_X3_11 (by decide) (by decide) rfl o rfl ?_
  refine ke_alen (n := 9) (t := 4) 1 (by decide) dX3_init_25 ⟨Nat.le_of_ble_eq_true rfl, rfl⟩ ?_
  refine mw_icmp_ge (tgt := 49) dX3_init_26 (by decide) (fun q => absurd q (by decide)) (fun _ => ?_)
  refine mw_aload_n 1 dX3_init_29 rfl ?_
  refine ke_getr (b := a + 1) 3 0 dX3_init_30 fl_X3_11 (by decide) (by decide) rfl o rfl ?_
  refine mw_iload_n 0 dX3_init_33 rfl ?_
  refine ke_new (z' := (44, 377)) 8 44 dX3_init_34 kl_X3_9 il_X8 in_X8 (by decide) ⟨Nat.le_of_ble_eq_true rfl, Nat.le_of_ble_eq_true rfl⟩ rfl (by omega) rfl ?_
  refine mw_dup dX3_init_37 rfl ?_
  refine mw_aload_n 2 dX3_init_38 rfl ?_
  refine ke_init (rest := [.ref (a + 44), .int 6, .ref (a + 1)]) (z' := (50, 422)) (C := (kX8_init (a + 44) (pl))) 44 [.ref pl] (c_X8_init d (a + 44) (pl) _ (by omega)) mY_X8_init dX3_init_39 (Or.inl ml_X3_21) (Nat.le_of_ble_eq_true rfl) rfl rfl rfl (Nat.le_of_ble_eq_true rfl) ⟨Nat.le_of_ble_eq_true rfl, Nat.le_of_ble_eq_true rfl⟩ rfl o (by decide) (fun o => ?_)
  refine ke_aast (t := 4) (ci := 8) (n := 9) 1 6 44 (Or.inl ⟨rfl, rfl⟩) dX3_init_42 ⟨Nat.le_of_ble_eq_true rfl, rfl⟩ (by decide) (by decide) rfl rfl ⟨Nat.le_of_ble_eq_true rfl, rfl⟩ o (fun o => ?_)
  refine mw_iinc 0 7 [(2, .int 7), (0, .ref a), (1, .ref pl)] dX3_init_43 rfl (by decide) (Nat.le_of_ble_eq_true rfl) rfl ?_
  refine mw_goto (tgt := 20) dX3_init_46 (by decide) ?_
  refine mw_iload_n 0 dX3_init_20 rfl ?_
  refine mw_aload_n 1 dX3_init_21 rfl ?_
  refine ke_getr (b := a + 1) 3 0 dX3_init_22 fl_X3_11 (by decide) (by decide) rfl o rfl ?_
  refine ke_alen (n := 9) (t := 4) 1 (by decide) dX3_init_25 ⟨Nat.le_of_ble_eq_true rfl, rfl⟩ ?_
  refine mw_icmp_ge (tgt := 49) dX3_init_26 (by decide) (fun q => absurd q (by decide)) (fun _ => ?_)
  refine mw_aload_n 1 dX3_init_29 rfl ?_
  refine ke_getr (b := a + 1) 3 0 dX3_init_30 fl_X3_11 (by decide) (by decide) rfl o rfl ?_
  refine mw_iload_n 0 dX3_init_33 rfl ?_
  refine ke_new (z' := (51, 436)) 8 51 dX3_init_34 kl_X3_9 il_X8 in_X8 (by decide) ⟨Nat.le_of_ble_eq_true rfl, Nat.le_of_ble_eq_true rfl⟩ rfl (by omega) rfl ?_
  refine mw_dup dX3_init_37 rfl ?_
  refine mw_aload_n 2 dX3_init_38 rfl ?_
  refine ke_init (rest := [.ref (a + 51), .int 7, .ref (a + 1)]) (z' := (57, 481)) (C := (kX8_init (a + 51) (pl))) 51 [.ref pl] (c_X8_init d (a + 51) (pl) _ (by omega)) mY_X8_init dX3_init_39 (Or.inl ml_X3_21) (Nat.le_of_ble_eq_true rfl) rfl rfl rfl (Nat.le_of_ble_eq_true rfl) ⟨Nat.le_of_ble_eq_true rfl, Nat.le_of_ble_eq_true rfl⟩ rfl o (by decide) (fun o => ?_)
  refine ke_aast (t := 4) (ci := 8) (n := 9) 1 7 51 (Or.inl ⟨rfl, rfl⟩) dX3_init_42 ⟨Nat.le_of_ble_eq_true rfl, rfl⟩ (by decide) (by decide) rfl rfl ⟨Nat.le_of_ble_eq_true rfl, rfl⟩ o (fun o => ?_)
  refine mw_iinc 0 8 [(2, .int 8), (0, .ref a), (1, .ref pl)] dX3_init_43 rfl (by decide) (Nat.le_of_ble_eq_true rfl) rfl ?_
  refine mw_goto (tgt := 20) dX3_init_46 (by decide) ?_
  refine mw_iload_n 0 dX3_init_20 rfl ?_
  refine mw_aload_n 1 dX3_init_21 rfl ?_
  refine ke_getr (b := a + 1) 3 0 dX3_init_22 fl_X3_11 (by decide) (by decide) rfl o rfl ?_
  refine ke_alen (n := 9) (t := 4) 1 (by decide) dX3_init_25 ⟨Nat.le_of_ble_eq_true rfl, rfl⟩ ?_
  refine mw_icmp_ge (tgt := 49) dX3_init_26 (by decide) (fun q => absurd q (by decide)) (fun _ => ?_)
  refine mw_aload_n 1 dX3_init_29 rfl ?_
  refine ke_getr (b := a + 1) 3 0 dX3_init_30 fl_X3_11 (by decide) (by decide) rfl o rfl ?_
  refine mw_iload_n 0 dX3_init_33 rfl ?_
  refine ke_new (z' := (58, 495)) 8 58 dX3_init_34 kl_X3_9 il_X8 in_X8 (by decide) ⟨Nat.le_of_ble_eq_true rfl, Nat.le_of_ble_eq_true rfl⟩ rfl (by omega) rfl ?_
  refine mw_dup dX3_init_37 rfl ?_
  refine mw_aload_n 2 dX3_init_38 rfl ?_
  refine ke_init (rest := [.ref (a + 58), .int 8, .ref (a + 1)]) (z' := (64, 540)) (C := (kX8_init (a + 58) (pl))) 58 [.ref pl] (c_X8_init d (a + 58) (pl) _ (by omega)) mY_X8_init dX3_init_39 (Or.inl ml_X3_21) (Nat.le_of_ble_eq_true rfl) rfl rfl rfl (Nat.le_of_ble_eq_true rfl) ⟨Nat.le_of_ble_eq_true rfl, Nat.le_of_ble_eq_true rfl⟩ rfl o (by decide) (fun o => ?_)
  refine ke_aast (t := 4) (ci := 8) (n := 9) 1 8 58 (Or.inl ⟨rfl, rfl⟩) dX3_init_42 ⟨Nat.le_of_ble_eq_true rfl, rfl⟩ (by decide) (by decide) rfl rfl ⟨Nat.le_of_ble_eq_true rfl, rfl⟩ o (fun o => ?_)
  refine mw_iinc 0 9 [(2, .int 9), (0, .ref a), (1, .ref pl)] dX3_init_43 rfl (by decide) (Nat.le_of_ble_eq_true rfl) rfl ?_
  refine mw_goto (tgt := 20) dX3_init_46 (by decide) ?_
  refine mw_iload_n 0 dX3_init_20 rfl ?_
  refine mw_aload_n 1 dX3_init_21 rfl ?_
  refine ke_getr (b := a + 1) 3 0 dX3_init_22 fl_X3_11 (by decide) (by decide) rfl o rfl ?_
  refine ke_alen (n := 9) (t := 4) 1 (by decide) dX3_init_25 ⟨Nat.le_of_ble_eq_true rfl, rfl⟩ ?_
  refine mw_icmp_ge (tgt := 49) dX3_init_26 (by decide) (fun _ => ?_) (fun q => absurd (by decide) q)
  exact mw_return dX3_init_49 rfl ⟨rfl, rfl⟩ ⟨rfl, rfl⟩
def kX4_init (a pl : Nat) : m_H := (m_sr (exw (m_si (m_sr (exw (m_sr (exw (m_nw ew0 4 0) 1 (kX5_init (a + 1))) 0 0 (some (a + 1))) 22 (kX7_init (a + 22))) 0 2 (some (a + 22))) 0 3 0) 27 (kX8_init (a + 27) (pl))) 0 1 (some (a + 27)))
set_option maxRecDepth 100000 in
set_option maxHeartbeats 4000000 in
theorem c_X4_init (d a pl : Nat) (h : m_H) (hm : a + 34 < 1000000) : MC yX4_init cX4_init 2 none (d + 2) 33 588 [.ref a, .ref pl] (exw h a (m_nw ew0 4 0)) (m_rn (exw h a (kX4_init a pl))) := by
  refine mc_of (by decide +kernel) (Nat.le_of_ble_eq_true rfl) ?_
  have o : m_O (m_nw ew0 4 0) 0 4 := ⟨Nat.le_of_ble_eq_true rfl, rfl⟩
  show MW (yX4_init.cls, cX4_init, 2, none, yX4_init.name, d + 2, 33, 588) 0 (0, 0) [(0, .ref a), (1, .ref pl)] [] (exw h a (m_nw ew0 4 0)) _
  refine mw_aload_n 0 dX4_init_0 rfl ?_
  refine mw_objI dX4_init_1 ml_X4_1 iml_obj col_obj (by show 1 ≤ d + 2; omega) (Nat.le_of_ble_eq_true rfl) ?_
  refine mw_aload_n 0 dX4_init_4 rfl ?_
  refine ke_new (z' := (1, 20)) 5 1 dX4_init_5 kl_X4_7 il_X5 in_X5 (by decide) ⟨Nat.le_of_ble_eq_true rfl, Nat.le_of_ble_eq_true rfl⟩ rfl (by omega) rfl ?_
  refine mw_dup dX4_init_8 rfl ?_
  refine ke_init (rest := [.ref (a + 1), .ref a]) (z' := (21, 362)) (C := (kX5_init (a + 1))) 1 [] (c_X5_init d (a + 1) _ (by omega)) mY_X5_init dX4_init_9 (Or.inl ml_X4_9) (Nat.le_of_ble_eq_true rfl) rfl rfl rfl (Nat.le_of_ble_eq_true rfl) ⟨Nat.le_of_ble_eq_true rfl, Nat.le_of_ble_eq_true rfl⟩ rfl o (by decide) (fun o => ?_)
  refine ke_putr 4 0 dX4_init_12 fl_X4_10 (by decide) (by decide) rfl (Or.inr ⟨rfl, rfl, rfl⟩) o (fun o => ?_)
  refine mw_aload_n 0 dX4_init_15 rfl ?_
  refine ke_new (z' := (22, 369)) 7 22 dX4_init_16 kl_X4_16 il_X7 in_X7 (by decide) ⟨Nat.le_of_ble_eq_true rfl, Nat.le_of_ble_eq_true rfl⟩ rfl (by omega) rfl ?_
  refine mw_dup dX4_init_19 rfl ?_
  refine ke_init (rest := [.ref (a + 22), .ref a]) (z' := (26, 529)) (C := (kX7_init (a + 22))) 22 [] (c_X7_init d (a + 22) _ (by omega)) mY_X7_init dX4_init_20 (Or.inr (List.mem_of_getElem? (l := m_nest) (i := 7) rfl)) (Nat.le_of_ble_eq_true rfl) rfl rfl rfl (Nat.le_of_ble_eq_true rfl) ⟨Nat.le_of_ble_eq_true rfl, Nat.le_of_ble_eq_true rfl⟩ rfl o (by decide) (fun o => ?_)
  refine ke_putr 4 2 dX4_init_23 fl_X4_19 (by decide) (by decide) rfl (Or.inr ⟨rfl, rfl, rfl⟩) o (fun o => ?_)
  refine mw_aload_n 0 dX4_init_26 rfl ?_
  refine mw_iconst (v := 0) dX4_init_27 rfl ?_
  refine ke_puti 4 3 dX4_init_28 fl_X4_23 (by decide) (by decide) rfl rfl ⟨rfl, rfl⟩ o (fun o => ?_)
  refine mw_aload_n 0 dX4_init_31 rfl ?_
  refine ke_new (z' := (27, 543)) 8 27 dX4_init_32 kl_X4_27 il_X8 in_X8 (by decide) ⟨Nat.le_of_ble_eq_true rfl, Nat.le_of_ble_eq_true rfl⟩ rfl (by omega) rfl ?_
  refine mw_dup dX4_init_35 rfl ?_
  refine mw_aload_n 1 dX4_init_36 rfl ?_
  refine ke_init (rest := [.ref (a + 27), .ref a]) (z' := (33, 588)) (C := (kX8_init (a + 27) (pl))) 27 [.ref pl] (c_X8_init d (a + 27) (pl) _ (by omega)) mY_X8_init dX4_init_37 (Or.inl ml_X4_29) (Nat.le_of_ble_eq_true rfl) rfl rfl rfl (Nat.le_of_ble_eq_true rfl) ⟨Nat.le_of_ble_eq_true rfl, Nat.le_of_ble_eq_true rfl⟩ rfl o (by decide) (fun o => ?_)
  refine ke_putr 4 1 dX4_init_40 fl_X4_32 (by decide) (by decide) rfl (Or.inr ⟨rfl, rfl, rfl⟩) o (fun o => ?_)
  exact mw_return dX4_init_43 rfl ⟨rfl, rfl⟩ ⟨rfl, rfl⟩
def kX10_init (a : Nat) : m_H := (m_sr (cwH (m_si (m_si (m_si (m_sj (m_si (m_si (m_si (m_si (m_si (m_si (m_sr (m_nw (m_nw ew0 10 0) 100 1460) 0 0 (some (a + 1))) 0 1 0) 0 2 0) 0 3 0) 0 4 0) 0 5 0) 0 6 0) 0 7 0) 0 8 (-1)) 0 9 0) 0 10 0) 179) 0 11 (some (a + 2)))
set_option maxRecDepth 100000 in
set_option maxHeartbeats 4000000 in
theorem c_X10_init (d a : Nat) (h : m_H) (hm : a + 3 < 1000000) : MC yX10_init cX10_init 1 none (d + 6) 2 1492 [.ref a] (exw h a (m_nw ew0 10 0)) (m_rn (exw h a (kX10_init a))) := by
  refine mc_of (by decide +kernel) (Nat.le_of_ble_eq_true rfl) ?_
  have o : m_O (m_nw ew0 10 0) 0 10 := ⟨Nat.le_of_ble_eq_true rfl, rfl⟩
  show MW (yX10_init.cls, cX10_init, 1, none, yX10_init.name, d + 6, 2, 1492) 0 (0, 0) [(0, .ref a)] [] (exw h a (m_nw ew0 10 0)) _
  refine mw_aload_n 0 dX10_init_0 rfl ?_
  refine mw_objI dX10_init_1 ml_X10_3 iml_obj col_obj (by show 1 ≤ d + 6; omega) (Nat.le_of_ble_eq_true rfl) ?_
  refine mw_aload_n 0 dX10_init_4 rfl ?_
  refine mw_sipush (v := 1460) dX10_init_5 (by decide) ?_
  refine ke_newa (t := 0) (N := 1460) (z' := (1, 1460)) 1 rfl dX10_init_8 al_int (fun G => rfl) (by decide) (by decide) (by decide) ⟨Nat.le_of_ble_eq_true rfl, Nat.le_of_ble_eq_true rfl⟩ rfl (by omega) rfl rfl o (fun o => ?_)
  refine ke_putr 10 0 dX10_init_10 fl_X10_9 (by decide) (by decide) rfl (Or.inr ⟨rfl, rfl, rfl⟩) o (fun o => ?_)
  refine mw_aload_n 0 dX10_init_13 rfl ?_
  refine mw_iconst (v := 0) dX10_init_14 rfl ?_
  refine ke_puti 10 1 dX10_init_15 fl_X10_15 (by decide) (by decide) rfl rfl ⟨rfl, rfl⟩ o (fun o => ?_)
  refine mw_aload_n 0 dX10_init_18 rfl ?_
  refine mw_iconst (v := 0) dX10_init_19 rfl ?_
  refine ke_puti 10 2 dX10_init_20 fl_X10_19 (by decide) (by decide) rfl rfl ⟨rfl, rfl⟩ o (fun o => ?_)
  refine mw_aload_n 0 dX10_init_23 rfl ?_
  refine mw_iconst (v := 0) dX10_init_24 rfl ?_
  refine ke_puti 10 3 dX10_init_25 fl_X10_22 (by decide) (by decide) rfl rfl ⟨rfl, rfl⟩ o (fun o => ?_)
  refine mw_aload_n 0 dX10_init_28 rfl ?_
  refine mw_iconst (v := 0) dX10_init_29 rfl ?_
  refine ke_puti 10 4 dX10_init_30 fl_X10_25 (by decide) (by decide) rfl rfl ⟨rfl, rfl⟩ o (fun o => ?_)
  refine mw_aload_n 0 dX10_init_33 rfl ?_
  refine mw_iconst (v := 0) dX10_init_34 rfl ?_
  refine ke_puti 10 5 dX10_init_35 fl_X10_28 (by decide) (by decide) rfl rfl ⟨rfl, rfl⟩ o (fun o => ?_)
  refine mw_aload_n 0 dX10_init_38 rfl ?_
  refine mw_iconst (v := 0) dX10_init_39 rfl ?_
  refine ke_puti 10 6 dX10_init_40 fl_X10_31 (by decide) (by decide) rfl rfl ⟨rfl, rfl⟩ o (fun o => ?_)
  refine mw_aload_n 0 dX10_init_43 rfl ?_
  refine mw_lconst (v := 0) dX10_init_44 rfl ?_
  refine ke_putl 10 7 dX10_init_45 fl_X10_34 (by decide) (by decide) rfl rfl o (fun o => ?_)
  refine mw_aload_n 0 dX10_init_48 rfl ?_
  refine mw_iconst (v := -1) dX10_init_49 rfl ?_
  refine ke_puti 10 8 dX10_init_50 fl_X10_38 (by decide) (by decide) rfl rfl ⟨rfl, rfl⟩ o (fun o => ?_)
  refine mw_aload_n 0 dX10_init_53 rfl ?_
  refine mw_iconst (v := 0) dX10_init_54 rfl ?_
  refine ke_puti 10 9 dX10_init_55 fl_X10_41 (by decide) (by decide) rfl rfl ⟨rfl, rfl⟩ o (fun o => ?_)
  refine mw_aload_n 0 dX10_init_58 rfl ?_
  refine mw_iconst (v := 0) dX10_init_59 rfl ?_
  refine ke_puti 10 10 dX10_init_60 fl_X10_44 (by decide) (by decide) rfl rfl ⟨rfl, rfl⟩ o (fun o => ?_)
  refine mw_aload_n 0 dX10_init_63 rfl ?_
  refine mw_callS (rest := [.ref a]) (As := []) (mc := 1) (ms := 32) (c_X10_codesOfWords d _ (by show a + 2 < 1000000; omega)) mY_X10_codesOfWords dX10_init_64 ml_X10_47 rfl rfl (Nat.le_of_ble_eq_true rfl) ⟨Nat.le_of_ble_eq_true rfl, Nat.le_of_ble_eq_true rfl⟩ (fun r0 h0 q0 => ?_)
  obtain ⟨rfl, rfl⟩ := q0
  rw [ex_cw]
  replace o : m_O (cwH (m_si (m_si (m_si (m_sj (m_si (m_si (m_si (m_si (m_si (m_si (m_sr (m_nw (m_nw ew0 10 0) 100 1460) 0 0 (some (a + 1))) 0 1 0) 0 2 0) 0 3 0) 0 4 0) 0 5 0) 0 6 0) 0 7 0) 0 8 (-1)) 0 9 0) 0 10 0) 179) 0 10 := cwH_O o 179
  show MW _ 67 (2, 1492) _ [.ref (a + 2), .ref a] (exw h a (cwH (m_si (m_si (m_si (m_sj (m_si (m_si (m_si (m_si (m_si (m_si (m_sr (m_nw (m_nw ew0 10 0) 100 1460) 0 0 (some (a + 1))) 0 1 0) 0 2 0) 0 3 0) 0 4 0) 0 5 0) 0 6 0) 0 7 0) 0 8 (-1)) 0 9 0) 0 10 0) 179)) _
  refine ke_putr 10 11 dX10_init_67 fl_X10_51 (by decide) (by decide) rfl (Or.inr ⟨rfl, rfl, rfl⟩) o (fun o => ?_)
  exact mw_return dX10_init_70 rfl ⟨rfl, rfl⟩ ⟨rfl, rfl⟩
def kX11_init (a : Nat) : m_H := (m_sr (exw (m_sr (exw (m_si (m_si (m_sr (exw (m_sr (exw (m_sr (exw (m_sr (m_nw (m_sr (exw (m_sr (exw (m_sr (exw (m_sr (exw (m_sr (exw (m_sr (exw (m_sr (exw (m_sr (exw (m_sr (exw (m_nw ew0 11 0) 1 (kX10_init (a + 1))) 0 0 (some (a + 1))) 4 (kX5_init (a + 4))) 0 1 (some (a + 4))) 25 (kX6_init (a + 25))) 0 2 (some (a + 25))) 47 (kX8_init (a + 47) (a + 4))) 0 3 (some (a + 47))) 54 (kX8_init (a + 54) (a + 4))) 0 4 (some (a + 54))) 61 (kX3_init (a + 61) (a + 4))) 0 5 (some (a + 61))) 126 (kX0_init (a + 126))) 0 6 (some (a + 126))) 130 (kX7_init (a + 130))) 0 7 (some (a + 130))) 135 (kX7_init (a + 135))) 0 8 (some (a + 135))) 105 2) 0 9 (some (a + 140))) 141 (kX1_init (a + 141))) 0 10 (some (a + 141))) 146 (kX2_init (a + 146))) 0 11 (some (a + 146))) 148 (kX9_init (a + 148))) 0 12 (some (a + 148))) 0 13 0) 0 14 (-1)) 150 (kX4_init (a + 150) (a + 4))) 140 0 (some (a + 150))) 184 (kX4_init (a + 184) (a + 4))) 140 1 (some (a + 184)))
set_option maxRecDepth 100000 in
set_option maxHeartbeats 4000000 in
theorem c_X11_init (d a : Nat) (h : m_H) (hm : a + 218 < 1000000) : MC yX11_init cX11_init 2 none (d + 7) 217 4650 [.ref a] (exw h a (m_nw ew0 11 0)) (m_rn (exw h a (kX11_init a))) := by
  refine mc_of (by decide +kernel) (Nat.le_of_ble_eq_true rfl) ?_
  have o : m_O (m_nw ew0 11 0) 0 11 := ⟨Nat.le_of_ble_eq_true rfl, rfl⟩
  show MW (yX11_init.cls, cX11_init, 2, none, yX11_init.name, d + 7, 217, 4650) 0 (0, 0) [(0, .ref a)] [] (exw h a (m_nw ew0 11 0)) _
  refine mw_aload_n 0 dX11_init_0 rfl ?_
  refine mw_objI dX11_init_1 ml_X11_1 iml_obj col_obj (by show 1 ≤ d + 7; omega) (Nat.le_of_ble_eq_true rfl) ?_
  refine mw_aload_n 0 dX11_init_4 rfl ?_
  refine ke_new (z' := (1, 12)) 10 1 dX11_init_5 kl_X11_7 il_X10 in_X10 (by decide) ⟨Nat.le_of_ble_eq_true rfl, Nat.le_of_ble_eq_true rfl⟩ rfl (by omega) rfl ?_
  refine mw_dup dX11_init_8 rfl ?_
  refine ke_init (rest := [.ref (a + 1), .ref a]) (z' := (3, 1504)) (C := (kX10_init (a + 1))) 1 [] (c_X10_init d (a + 1) _ (by omega)) mY_X10_init dX11_init_9 (Or.inr (List.mem_of_getElem? (l := m_nest) (i := 0) rfl)) (Nat.le_of_ble_eq_true rfl) rfl rfl rfl (Nat.le_of_ble_eq_true rfl) ⟨Nat.le_of_ble_eq_true rfl, Nat.le_of_ble_eq_true rfl⟩ rfl o (by decide) (fun o => ?_)
  refine ke_putr 11 0 dX11_init_12 fl_X11_10 (by decide) (by decide) rfl (Or.inr ⟨rfl, rfl, rfl⟩) o (fun o => ?_)
  refine mw_aload_n 0 dX11_init_15 rfl ?_
  refine ke_new (z' := (4, 1524)) 5 4 dX11_init_16 kl_X11_16 il_X5 in_X5 (by decide) ⟨Nat.le_of_ble_eq_true rfl, Nat.le_of_ble_eq_true rfl⟩ rfl (by omega) rfl ?_
  refine mw_dup dX11_init_19 rfl ?_
  refine ke_init (rest := [.ref (a + 4), .ref a]) (z' := (24, 1866)) (C := (kX5_init (a + 4))) 4 [] (c_X5_init (d + 5) (a + 4) _ (by omega)) mY_X5_init dX11_init_20 (Or.inl ml_X11_18) (Nat.le_of_ble_eq_true rfl) rfl rfl rfl (Nat.le_of_ble_eq_true rfl) ⟨Nat.le_of_ble_eq_true rfl, Nat.le_of_ble_eq_true rfl⟩ rfl o (by decide) (fun o => ?_)
  refine ke_putr 11 1 dX11_init_23 fl_X11_19 (by decide) (by decide) rfl (Or.inr ⟨rfl, rfl, rfl⟩) o (fun o => ?_)
  refine mw_aload_n 0 dX11_init_26 rfl ?_
  refine ke_new (z' := (25, 1869)) 6 25 dX11_init_27 kl_X11_23 il_X6 in_X6 (by decide) ⟨Nat.le_of_ble_eq_true rfl, Nat.le_of_ble_eq_true rfl⟩ rfl (by omega) rfl ?_
  refine mw_dup dX11_init_30 rfl ?_
  refine ke_init (rest := [.ref (a + 25), .ref a]) (z' := (46, 2231)) (C := (kX6_init (a + 25))) 25 [] (c_X6_init (d + 4) (a + 25) _ (by omega)) mY_X6_init dX11_init_31 (Or.inr (List.mem_of_getElem? (l := m_nest) (i := 1) rfl)) (Nat.le_of_ble_eq_true rfl) rfl rfl rfl (Nat.le_of_ble_eq_true rfl) ⟨Nat.le_of_ble_eq_true rfl, Nat.le_of_ble_eq_true rfl⟩ rfl o (by decide) (fun o => ?_)
  refine ke_putr 11 2 dX11_init_34 fl_X11_26 (by decide) (by decide) rfl (Or.inr ⟨rfl, rfl, rfl⟩) o (fun o => ?_)
  refine mw_aload_n 0 dX11_init_37 rfl ?_
  refine ke_new (z' := (47, 2245)) 8 47 dX11_init_38 kl_X11_30 il_X8 in_X8 (by decide) ⟨Nat.le_of_ble_eq_true rfl, Nat.le_of_ble_eq_true rfl⟩ rfl (by omega) rfl ?_
  refine mw_dup dX11_init_41 rfl ?_
  refine mw_aload_n 0 dX11_init_42 rfl ?_
  refine ke_getr2 (b := a + 4) 11 1 dX11_init_43 fl_X11_19 (by decide) (by decide) rfl o rfl (by decide) ?_
  refine ke_init (rest := [.ref (a + 47), .ref a]) (z' := (53, 2290)) (C := (kX8_init (a + 47) (a + 4))) 47 [.ref (a + 4)] (c_X8_init (d + 5) (a + 47) (a + 4) _ (by omega)) mY_X8_init dX11_init_46 (Or.inl ml_X11_32) (Nat.le_of_ble_eq_true rfl) rfl rfl rfl (Nat.le_of_ble_eq_true rfl) ⟨Nat.le_of_ble_eq_true rfl, Nat.le_of_ble_eq_true rfl⟩ rfl o (by decide) (fun o => ?_)
  refine ke_putr 11 3 dX11_init_49 fl_X11_35 (by decide) (by decide) rfl (Or.inr ⟨rfl, rfl, rfl⟩) o (fun o => ?_)
  refine mw_aload_n 0 dX11_init_52 rfl ?_
  refine ke_new (z' := (54, 2304)) 8 54 dX11_init_53 kl_X11_30 il_X8 in_X8 (by decide) ⟨Nat.le_of_ble_eq_true rfl, Nat.le_of_ble_eq_true rfl⟩ rfl (by omega) rfl ?_
  refine mw_dup dX11_init_56 rfl ?_
  refine mw_aload_n 0 dX11_init_57 rfl ?_
  refine ke_getr2 (b := a + 4) 11 1 dX11_init_58 fl_X11_19 (by decide) (by decide) rfl o rfl (by decide) ?_
  refine ke_init (rest := [.ref (a + 54), .ref a]) (z' := (60, 2349)) (C := (kX8_init (a + 54) (a + 4))) 54 [.ref (a + 4)] (c_X8_init (d + 5) (a + 54) (a + 4) _ (by omega)) mY_X8_init dX11_init_61 (Or.inl ml_X11_32) (Nat.le_of_ble_eq_true rfl) rfl rfl rfl (Nat.le_of_ble_eq_true rfl) ⟨Nat.le_of_ble_eq_true rfl, Nat.le_of_ble_eq_true rfl⟩ rfl o (by decide) (fun o => ?_)
  refine ke_putr 11 4 dX11_init_64 fl_X11_39 (by decide) (by decide) rfl (Or.inr ⟨rfl, rfl, rfl⟩) o (fun o => ?_)
  refine mw_aload_n 0 dX11_init_67 rfl ?_
  refine ke_new (z' := (61, 2351)) 3 61 dX11_init_68 kl_X11_42 il_X3 in_X3 (by decide) ⟨Nat.le_of_ble_eq_true rfl, Nat.le_of_ble_eq_true rfl⟩ rfl (by omega) rfl ?_
  refine mw_dup dX11_init_71 rfl ?_
  refine mw_aload_n 0 dX11_init_72 rfl ?_
  refine ke_getr2 (b := a + 4) 11 1 dX11_init_73 fl_X11_19 (by decide) (by decide) rfl o rfl (by decide) ?_
  refine ke_init (rest := [.ref (a + 61), .ref a]) (z' := (125, 2891)) (C := (kX3_init (a + 61) (a + 4))) 61 [.ref (a + 4)] (c_X3_init (d + 4) (a + 61) (a + 4) _ (by omega)) mY_X3_init dX11_init_76 (Or.inl ml_X11_44) (Nat.le_of_ble_eq_true rfl) rfl rfl rfl (Nat.le_of_ble_eq_true rfl) ⟨Nat.le_of_ble_eq_true rfl, Nat.le_of_ble_eq_true rfl⟩ rfl o (by decide) (fun o => ?_)
  refine ke_putr 11 5 dX11_init_79 fl_X11_45 (by decide) (by decide) rfl (Or.inr ⟨rfl, rfl, rfl⟩) o (fun o => ?_)
  refine mw_aload_n 0 dX11_init_82 rfl ?_
  refine ke_new (z' := (126, 2900)) 0 126 dX11_init_83 kl_X11_49 il_X0 in_X0 (by decide) ⟨Nat.le_of_ble_eq_true rfl, Nat.le_of_ble_eq_true rfl⟩ rfl (by omega) rfl ?_
  refine mw_dup dX11_init_86 rfl ?_
  refine ke_init (rest := [.ref (a + 126), .ref a]) (z' := (129, 3020)) (C := (kX0_init (a + 126))) 126 [] (c_X0_init (d + 5) (a + 126) _ (by omega)) mY_X0_init dX11_init_87 (Or.inr (List.mem_of_getElem? (l := m_nest) (i := 2) rfl)) (Nat.le_of_ble_eq_true rfl) rfl rfl rfl (Nat.le_of_ble_eq_true rfl) ⟨Nat.le_of_ble_eq_true rfl, Nat.le_of_ble_eq_true rfl⟩ rfl o (by decide) (fun o => ?_)
  refine ke_putr 11 6 dX11_init_90 fl_X11_52 (by decide) (by decide) rfl (Or.inr ⟨rfl, rfl, rfl⟩) o (fun o => ?_)
  refine mw_aload_n 0 dX11_init_93 rfl ?_
  refine ke_new (z' := (130, 3027)) 7 130 dX11_init_94 kl_X11_56 il_X7 in_X7 (by decide) ⟨Nat.le_of_ble_eq_true rfl, Nat.le_of_ble_eq_true rfl⟩ rfl (by omega) rfl ?_
  refine mw_dup dX11_init_97 rfl ?_
  refine ke_init (rest := [.ref (a + 130), .ref a]) (z' := (134, 3187)) (C := (kX7_init (a + 130))) 130 [] (c_X7_init (d + 5) (a + 130) _ (by omega)) mY_X7_init dX11_init_98 (Or.inr (List.mem_of_getElem? (l := m_nest) (i := 3) rfl)) (Nat.le_of_ble_eq_true rfl) rfl rfl rfl (Nat.le_of_ble_eq_true rfl) ⟨Nat.le_of_ble_eq_true rfl, Nat.le_of_ble_eq_true rfl⟩ rfl o (by decide) (fun o => ?_)
  refine ke_putr 11 7 dX11_init_101 fl_X11_59 (by decide) (by decide) rfl (Or.inr ⟨rfl, rfl, rfl⟩) o (fun o => ?_)
  refine mw_aload_n 0 dX11_init_104 rfl ?_
  refine ke_new (z' := (135, 3194)) 7 135 dX11_init_105 kl_X11_56 il_X7 in_X7 (by decide) ⟨Nat.le_of_ble_eq_true rfl, Nat.le_of_ble_eq_true rfl⟩ rfl (by omega) rfl ?_
  refine mw_dup dX11_init_108 rfl ?_
  refine ke_init (rest := [.ref (a + 135), .ref a]) (z' := (139, 3354)) (C := (kX7_init (a + 135))) 135 [] (c_X7_init (d + 5) (a + 135) _ (by omega)) mY_X7_init dX11_init_109 (Or.inr (List.mem_of_getElem? (l := m_nest) (i := 3) rfl)) (Nat.le_of_ble_eq_true rfl) rfl rfl rfl (Nat.le_of_ble_eq_true rfl) ⟨Nat.le_of_ble_eq_true rfl, Nat.le_of_ble_eq_true rfl⟩ rfl o (by decide) (fun o => ?_)
  refine ke_putr 11 8 dX11_init_112 fl_X11_63 (by decide) (by decide) rfl (Or.inr ⟨rfl, rfl, rfl⟩) o (fun o => ?_)
  refine mw_aload_n 0 dX11_init_115 rfl ?_
  refine mw_iconst (v := 2) dX11_init_116 rfl ?_
  refine ke_newR (t := 5) (ci := 4) (N := 2) (z' := (140, 3356)) 140 rfl (Or.inr ⟨rfl, rfl⟩) dX11_init_117 kl_X11_66 (by decide) (by decide) ⟨Nat.le_of_ble_eq_true rfl, Nat.le_of_ble_eq_true rfl⟩ rfl (by omega) rfl o (fun o => ?_)
  refine ke_putr 11 9 dX11_init_120 fl_X11_68 (by decide) (by decide) rfl (Or.inr ⟨rfl, rfl, rfl⟩) o (fun o => ?_)
  refine mw_aload_n 0 dX11_init_123 rfl ?_
  refine ke_new (z' := (141, 3362)) 1 141 dX11_init_124 kl_X11_72 il_X1 in_X1 (by decide) ⟨Nat.le_of_ble_eq_true rfl, Nat.le_of_ble_eq_true rfl⟩ rfl (by omega) rfl ?_
  refine mw_dup dX11_init_127 rfl ?_
  refine ke_init (rest := [.ref (a + 141), .ref a]) (z' := (145, 3410)) (C := (kX1_init (a + 141))) 141 [] (c_X1_init (d + 5) (a + 141) _ (by omega)) mY_X1_init dX11_init_128 (Or.inr (List.mem_of_getElem? (l := m_nest) (i := 4) rfl)) (Nat.le_of_ble_eq_true rfl) rfl rfl rfl (Nat.le_of_ble_eq_true rfl) ⟨Nat.le_of_ble_eq_true rfl, Nat.le_of_ble_eq_true rfl⟩ rfl o (by decide) (fun o => ?_)
  refine ke_putr 11 10 dX11_init_131 fl_X11_75 (by decide) (by decide) rfl (Or.inr ⟨rfl, rfl, rfl⟩) o (fun o => ?_)
  refine mw_aload_n 0 dX11_init_134 rfl ?_
  refine ke_new (z' := (146, 3413)) 2 146 dX11_init_135 kl_X11_79 il_X2 in_X2 (by decide) ⟨Nat.le_of_ble_eq_true rfl, Nat.le_of_ble_eq_true rfl⟩ rfl (by omega) rfl ?_
  refine mw_dup dX11_init_138 rfl ?_
  refine ke_init (rest := [.ref (a + 146), .ref a]) (z' := (147, 3438)) (C := (kX2_init (a + 146))) 146 [] (c_X2_init (d + 5) (a + 146) _ (by omega)) mY_X2_init dX11_init_139 (Or.inr (List.mem_of_getElem? (l := m_nest) (i := 5) rfl)) (Nat.le_of_ble_eq_true rfl) rfl rfl rfl (Nat.le_of_ble_eq_true rfl) ⟨Nat.le_of_ble_eq_true rfl, Nat.le_of_ble_eq_true rfl⟩ rfl o (by decide) (fun o => ?_)
  refine ke_putr 11 11 dX11_init_142 fl_X11_82 (by decide) (by decide) rfl (Or.inr ⟨rfl, rfl, rfl⟩) o (fun o => ?_)
  refine mw_aload_n 0 dX11_init_145 rfl ?_
  refine ke_new (z' := (148, 3440)) 9 148 dX11_init_146 kl_X11_86 il_X9 in_X9 (by decide) ⟨Nat.le_of_ble_eq_true rfl, Nat.le_of_ble_eq_true rfl⟩ rfl (by omega) rfl ?_
  refine mw_dup dX11_init_149 rfl ?_
  refine ke_init (rest := [.ref (a + 148), .ref a]) (z' := (149, 3466)) (C := (kX9_init (a + 148))) 148 [] (c_X9_init (d + 5) (a + 148) _ (by omega)) mY_X9_init dX11_init_150 (Or.inr (List.mem_of_getElem? (l := m_nest) (i := 6) rfl)) (Nat.le_of_ble_eq_true rfl) rfl rfl rfl (Nat.le_of_ble_eq_true rfl) ⟨Nat.le_of_ble_eq_true rfl, Nat.le_of_ble_eq_true rfl⟩ rfl o (by decide) (fun o => ?_)
  refine ke_putr 11 12 dX11_init_153 fl_X11_89 (by decide) (by decide) rfl (Or.inr ⟨rfl, rfl, rfl⟩) o (fun o => ?_)
  refine mw_aload_n 0 dX11_init_156 rfl ?_
  refine mw_iconst (v := 0) dX11_init_157 rfl ?_
  refine ke_puti 11 13 dX11_init_158 fl_X11_93 (by decide) (by decide) rfl rfl ⟨rfl, rfl⟩ o (fun o => ?_)
  refine mw_aload_n 0 dX11_init_161 rfl ?_
  refine mw_iconst (v := -1) dX11_init_162 rfl ?_
  refine ke_puti 11 14 dX11_init_163 fl_X11_97 (by decide) (by decide) rfl rfl ⟨rfl, rfl⟩ o (fun o => ?_)
  refine mw_iconst (v := 0) dX11_init_166 rfl ?_
  refine mw_istore_n [(1, .int 0), (0, .ref a)] dX11_init_167 (Nat.le_of_ble_eq_true rfl) rfl ?_
  refine mw_iload_n 0 dX11_init_168 rfl ?_
  refine mw_iconst (v := 2) dX11_init_169 rfl ?_
  refine mw_icmp_ge (tgt := 196) dX11_init_170 (by decide) (fun q => absurd q (by decide)) (fun _ => ?_)
  refine mw_aload_n 1 dX11_init_173 rfl ?_
  refine ke_getr (b := a + 140) 11 9 dX11_init_174 fl_X11_68 (by decide) (by decide) rfl o rfl ?_
  refine mw_iload_n 0 dX11_init_177 rfl ?_
  refine ke_new (z' := (150, 3470)) 4 150 dX11_init_178 kl_X11_66 il_X4 in_X4 (by decide) ⟨Nat.le_of_ble_eq_true rfl, Nat.le_of_ble_eq_true rfl⟩ rfl (by omega) rfl ?_
  refine mw_dup dX11_init_181 rfl ?_
  refine mw_aload_n 1 dX11_init_182 rfl ?_
  refine ke_getr2 (b := a + 4) 11 1 dX11_init_183 fl_X11_19 (by decide) (by decide) rfl o rfl (by decide) ?_
  refine ke_init (rest := [.ref (a + 150), .int 0, .ref (a + 140)]) (z' := (183, 4058)) (C := (kX4_init (a + 150) (a + 4))) 150 [.ref (a + 4)] (c_X4_init (d + 4) (a + 150) (a + 4) _ (by omega)) mY_X4_init dX11_init_186 (Or.inl ml_X11_100) (Nat.le_of_ble_eq_true rfl) rfl rfl rfl (Nat.le_of_ble_eq_true rfl) ⟨Nat.le_of_ble_eq_true rfl, Nat.le_of_ble_eq_true rfl⟩ rfl o (by decide) (fun o => ?_)
  refine ke_aast (t := 5) (ci := 4) (n := 2) 140 0 150 (Or.inr ⟨rfl, rfl⟩) dX11_init_189 ⟨Nat.le_of_ble_eq_true rfl, rfl⟩ (by decide) (by decide) rfl rfl ⟨Nat.le_of_ble_eq_true rfl, rfl⟩ o (fun o => ?_)
  refine mw_iinc 0 1 [(1, .int 1), (0, .ref a)] dX11_init_190 rfl (by decide) (Nat.le_of_ble_eq_true rfl) rfl ?_
  refine mw_goto (tgt := 168) dX11_init_193 (by decide) ?_
  refine mw_iload_n 0 dX11_init_168 rfl ?_
  refine mw_iconst (v := 2) dX11_init_169 rfl ?_
  refine mw_icmp_ge (tgt := 196) dX11_init_170 (by decide) (fun q => absurd q (by decide)) (fun _ => ?_)
  refine mw_aload_n 1 dX11_init_173 rfl ?_
  refine ke_getr (b := a + 140) 11 9 dX11_init_174 fl_X11_68 (by decide) (by decide) rfl o rfl ?_
  refine mw_iload_n 0 dX11_init_177 rfl ?_
  refine ke_new (z' := (184, 4062)) 4 184 dX11_init_178 kl_X11_66 il_X4 in_X4 (by decide) ⟨Nat.le_of_ble_eq_true rfl, Nat.le_of_ble_eq_true rfl⟩ rfl (by omega) rfl ?_
  refine mw_dup dX11_init_181 rfl ?_
  refine mw_aload_n 1 dX11_init_182 rfl ?_
  refine ke_getr2 (b := a + 4) 11 1 dX11_init_183 fl_X11_19 (by decide) (by decide) rfl o rfl (by decide) ?_
  refine ke_init (rest := [.ref (a + 184), .int 1, .ref (a + 140)]) (z' := (217, 4650)) (C := (kX4_init (a + 184) (a + 4))) 184 [.ref (a + 4)] (c_X4_init (d + 4) (a + 184) (a + 4) _ (by omega)) mY_X4_init dX11_init_186 (Or.inl ml_X11_100) (Nat.le_of_ble_eq_true rfl) rfl rfl rfl (Nat.le_of_ble_eq_true rfl) ⟨Nat.le_of_ble_eq_true rfl, Nat.le_of_ble_eq_true rfl⟩ rfl o (by decide) (fun o => ?_)
  refine ke_aast (t := 5) (ci := 4) (n := 2) 140 1 184 (Or.inr ⟨rfl, rfl⟩) dX11_init_189 ⟨Nat.le_of_ble_eq_true rfl, rfl⟩ (by decide) (by decide) rfl rfl ⟨Nat.le_of_ble_eq_true rfl, rfl⟩ o (fun o => ?_)
  refine mw_iinc 0 2 [(1, .int 2), (0, .ref a)] dX11_init_190 rfl (by decide) (Nat.le_of_ble_eq_true rfl) rfl ?_
  refine mw_goto (tgt := 168) dX11_init_193 (by decide) ?_
  refine mw_iload_n 0 dX11_init_168 rfl ?_
  refine mw_iconst (v := 2) dX11_init_169 rfl ?_
  refine mw_icmp_ge (tgt := 196) dX11_init_170 (by decide) (fun _ => ?_) (fun q => absurd (by decide) q)
  exact mw_return dX11_init_196 rfl ⟨rfl, rfl⟩ ⟨rfl, rfl⟩
