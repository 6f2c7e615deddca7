def kX12_init (a : Nat) : m_H := (m_sj (m_sj (m_sj (m_sj (m_sj (m_sj (m_sj (m_sj (m_sj (m_sj (m_sj (m_sj (m_sj (m_sj (m_sj (m_sj (m_sj (m_sj (m_sj (m_sj (m_sj (m_sj (m_sj (m_sj (m_sj (m_sj (m_sj (m_sj (m_sj (m_sj (m_sj (m_sj (m_sr (m_nw (m_sr (m_nw (m_sr (m_nw (m_sr (m_nw (m_sr (m_nw (m_sr (m_nw (m_sr (m_nw (m_si (m_sr (m_nw (m_si (m_sr (m_nw (m_sr (m_nw (m_sr (m_nw (m_si (m_sr (m_nw (m_sr (m_nw (m_sr (m_nw (m_sr (m_nw (m_sr (m_nw (m_sr (m_nw (m_sr (m_nw (m_sr (m_nw (m_sr (m_nw (m_nw ew0 12 0) 102 1460) 0 1 (some (a + 1))) 100 469) 0 6 (some (a + 2))) 100 226) 0 7 (some (a + 3))) 100 135) 0 8 (some (a + 4))) 101 82) 0 9 (some (a + 5))) 101 32) 0 10 (some (a + 6))) 100 496) 0 21 (some (a + 7))) 100 62) 0 22 (some (a + 8))) 100 16) 0 24 (some (a + 9))) 0 25 (-1)) 100 1024) 0 26 (some (a + 10))) 100 12) 0 29 (some (a + 11))) 100 12) 0 30 (some (a + 12))) 0 31 (-1)) 100 25) 0 32 (some (a + 13))) 0 33 (-1)) 102 40) 0 35 (some (a + 14))) 100 4) 0 39 (some (a + 15))) 100 45) 0 41 (some (a + 16))) 103 45) 0 47 (some (a + 17))) 100 938) 0 48 (some (a + 18))) 101 82) 0 49 (some (a + 19))) 103 2) 0 50 (some (a + 20))) 6 0 32481100150959982) 6 1 123623812527219) 6 2 500135191403) 6 3 126896544047468) 6 4 491496240229) 6 5 1870030194) 6 6 1819239275) 6 7 500135192942) 6 8 1752132708) 6 9 121424940196204) 6 10 32199706527560549) 6 11 1685026670) 6 12 30064) 6 13 7562612) 6 14 1650549611) 6 15 499968536439) 6 16 1717660012) 6 17 427020345714) 6 18 1718971500) 6 19 1835363940) 6 20 1953063787) 6 21 28530) 6 22 6385252) 6 23 7237492) 6 24 7304564) 6 25 27991785567970660) 6 26 33602627781095015) 6 27 26990) 6 28 504447463015) 6 29 499984329587) 6 30 131260264768868) 6 31 121450625394034)
set_option maxRecDepth 100000 in
set_option maxHeartbeats 4000000 in
theorem k_X12_init (d a : Nat) (h : m_H) (hm : a + 21 < 1000000) {Q : Option Value → m_H → Prop} (kk : MW (yX12_init.cls, cX12_init, 2, none, yX12_init.name, d + 4, 20, 5207) 498 (20, 5207) [(0, .ref a)] [] (exw h a (kX12_init a)) Q) : MW (yX12_init.cls, cX12_init, 2, none, yX12_init.name, d + 4, 20, 5207) 0 (0, 0) [(0, .ref a)] [] (exw h a (m_nw ew0 12 0)) Q := by
  have o : m_O (m_nw ew0 12 0) 0 12 := ⟨Nat.le_of_ble_eq_true rfl, rfl⟩
  refine mw_aload_n 0 dX12_init_0 rfl ?_
  refine mw_objI dX12_init_1 ml_X12_27 iml_obj col_obj (by show 1 ≤ d + 4; omega) (Nat.le_of_ble_eq_true rfl) ?_
  refine mw_aload_n 0 dX12_init_4 rfl ?_
  refine mw_sipush (v := 1460) dX12_init_5 (by decide) ?_
  refine ke_newa (t := 2) (N := 1460) (z' := (1, 1460)) 1 rfl dX12_init_8 al_byte (fun G => rfl) (by decide) (by decide) (by decide) ⟨Nat.le_of_ble_eq_true rfl, Nat.le_of_ble_eq_true rfl⟩ rfl (by omega) rfl rfl o (fun o => ?_)
  refine ke_putr 12 1 dX12_init_10 fl_X12_14 (by decide) (by decide) rfl (Or.inr ⟨rfl, rfl, rfl⟩) o (fun o => ?_)
  refine mw_aload_n 0 dX12_init_13 rfl ?_
  refine mw_sipush (v := 469) dX12_init_14 (by decide) ?_
  refine ke_newa (t := 0) (N := 469) (z' := (2, 1929)) 2 rfl dX12_init_17 al_int (fun G => rfl) (by decide) (by decide) (by decide) ⟨Nat.le_of_ble_eq_true rfl, Nat.le_of_ble_eq_true rfl⟩ rfl (by omega) rfl rfl o (fun o => ?_)
  refine ke_putr 12 6 dX12_init_19 fl_X12_33 (by decide) (by decide) rfl (Or.inr ⟨rfl, rfl, rfl⟩) o (fun o => ?_)
  refine mw_aload_n 0 dX12_init_22 rfl ?_
  refine mw_sipush (v := 226) dX12_init_23 (by decide) ?_
  refine ke_newa (t := 0) (N := 226) (z' := (3, 2155)) 3 rfl dX12_init_26 al_int (fun G => rfl) (by decide) (by decide) (by decide) ⟨Nat.le_of_ble_eq_true rfl, Nat.le_of_ble_eq_true rfl⟩ rfl (by omega) rfl rfl o (fun o => ?_)
  refine ke_putr 12 7 dX12_init_28 fl_X12_37 (by decide) (by decide) rfl (Or.inr ⟨rfl, rfl, rfl⟩) o (fun o => ?_)
  refine mw_aload_n 0 dX12_init_31 rfl ?_
  refine mw_sipush (v := 135) dX12_init_32 (by decide) ?_
  refine ke_newa (t := 0) (N := 135) (z' := (4, 2290)) 4 rfl dX12_init_35 al_int (fun G => rfl) (by decide) (by decide) (by decide) ⟨Nat.le_of_ble_eq_true rfl, Nat.le_of_ble_eq_true rfl⟩ rfl (by omega) rfl rfl o (fun o => ?_)
  refine ke_putr 12 8 dX12_init_37 fl_X12_40 (by decide) (by decide) rfl (Or.inr ⟨rfl, rfl, rfl⟩) o (fun o => ?_)
  refine mw_aload_n 0 dX12_init_40 rfl ?_
  refine mw_bipush (v := 82) dX12_init_41 (by decide) ?_
  refine ke_newa (t := 1) (N := 82) (z' := (5, 2372)) 5 rfl dX12_init_43 al_long (fun G => rfl) (by decide) (by decide) (by decide) ⟨Nat.le_of_ble_eq_true rfl, Nat.le_of_ble_eq_true rfl⟩ rfl (by omega) rfl rfl o (fun o => ?_)
  refine ke_putr 12 9 dX12_init_45 fl_X12_43 (by decide) (by decide) rfl (Or.inr ⟨rfl, rfl, rfl⟩) o (fun o => ?_)
  refine mw_aload_n 0 dX12_init_48 rfl ?_
  refine mw_bipush (v := 32) dX12_init_49 (by decide) ?_
  refine ke_newa (t := 1) (N := 32) (z' := (6, 2404)) 6 rfl dX12_init_51 al_long (fun G => rfl) (by decide) (by decide) (by decide) ⟨Nat.le_of_ble_eq_true rfl, Nat.le_of_ble_eq_true rfl⟩ rfl (by omega) rfl rfl o (fun o => ?_)
  refine ke_putr 12 10 dX12_init_53 fl_X12_47 (by decide) (by decide) rfl (Or.inr ⟨rfl, rfl, rfl⟩) o (fun o => ?_)
  refine mw_aload_n 0 dX12_init_56 rfl ?_
  refine mw_sipush (v := 496) dX12_init_57 (by decide) ?_
  refine ke_newa (t := 0) (N := 496) (z' := (7, 2900)) 7 rfl dX12_init_60 al_int (fun G => rfl) (by decide) (by decide) (by decide) ⟨Nat.le_of_ble_eq_true rfl, Nat.le_of_ble_eq_true rfl⟩ rfl (by omega) rfl rfl o (fun o => ?_)
  refine ke_putr 12 21 dX12_init_62 fl_X12_50 (by decide) (by decide) rfl (Or.inr ⟨rfl, rfl, rfl⟩) o (fun o => ?_)
  refine mw_aload_n 0 dX12_init_65 rfl ?_
  refine mw_bipush (v := 62) dX12_init_66 (by decide) ?_
  refine ke_newa (t := 0) (N := 62) (z' := (8, 2962)) 8 rfl dX12_init_68 al_int (fun G => rfl) (by decide) (by decide) (by decide) ⟨Nat.le_of_ble_eq_true rfl, Nat.le_of_ble_eq_true rfl⟩ rfl (by omega) rfl rfl o (fun o => ?_)
  refine ke_putr 12 22 dX12_init_70 fl_X12_53 (by decide) (by decide) rfl (Or.inr ⟨rfl, rfl, rfl⟩) o (fun o => ?_)
  refine mw_aload_n 0 dX12_init_73 rfl ?_
  refine mw_bipush (v := 16) dX12_init_74 (by decide) ?_
  refine ke_newa (t := 0) (N := 16) (z' := (9, 2978)) 9 rfl dX12_init_76 al_int (fun G => rfl) (by decide) (by decide) (by decide) ⟨Nat.le_of_ble_eq_true rfl, Nat.le_of_ble_eq_true rfl⟩ rfl (by omega) rfl rfl o (fun o => ?_)
  refine ke_putr 12 24 dX12_init_78 fl_X12_56 (by decide) (by decide) rfl (Or.inr ⟨rfl, rfl, rfl⟩) o (fun o => ?_)
  refine mw_aload_n 0 dX12_init_81 rfl ?_
  refine mw_iconst (v := -1) dX12_init_82 rfl ?_
  refine ke_puti 12 25 dX12_init_83 fl_X12_59 (by decide) (by decide) rfl rfl ⟨rfl, rfl⟩ o (fun o => ?_)
  refine mw_aload_n 0 dX12_init_86 rfl ?_
  refine mw_sipush (v := 1024) dX12_init_87 (by decide) ?_
  refine ke_newa (t := 0) (N := 1024) (z' := (10, 4002)) 10 rfl dX12_init_90 al_int (fun G => rfl) (by decide) (by decide) (by decide) ⟨Nat.le_of_ble_eq_true rfl, Nat.le_of_ble_eq_true rfl⟩ rfl (by omega) rfl rfl o (fun o => ?_)
  refine ke_putr 12 26 dX12_init_92 fl_X12_62 (by decide) (by decide) rfl (Or.inr ⟨rfl, rfl, rfl⟩) o (fun o => ?_)
  refine mw_aload_n 0 dX12_init_95 rfl ?_
  refine mw_bipush (v := 12) dX12_init_96 (by decide) ?_
  refine ke_newa (t := 0) (N := 12) (z' := (11, 4014)) 11 rfl dX12_init_98 al_int (fun G => rfl) (by decide) (by decide) (by decide) ⟨Nat.le_of_ble_eq_true rfl, Nat.le_of_ble_eq_true rfl⟩ rfl (by omega) rfl rfl o (fun o => ?_)
  refine ke_putr 12 29 dX12_init_100 fl_X12_65 (by decide) (by decide) rfl (Or.inr ⟨rfl, rfl, rfl⟩) o (fun o => ?_)
  refine mw_aload_n 0 dX12_init_103 rfl ?_
  refine mw_bipush (v := 12) dX12_init_104 (by decide) ?_
  refine ke_newa (t := 0) (N := 12) (z' := (12, 4026)) 12 rfl dX12_init_106 al_int (fun G => rfl) (by decide) (by decide) (by decide) ⟨Nat.le_of_ble_eq_true rfl, Nat.le_of_ble_eq_true rfl⟩ rfl (by omega) rfl rfl o (fun o => ?_)
  refine ke_putr 12 30 dX12_init_108 fl_X12_68 (by decide) (by decide) rfl (Or.inr ⟨rfl, rfl, rfl⟩) o (fun o => ?_)
  refine mw_aload_n 0 dX12_init_111 rfl ?_
  refine mw_iconst (v := -1) dX12_init_112 rfl ?_
  refine ke_puti 12 31 dX12_init_113 fl_X12_71 (by decide) (by decide) rfl rfl ⟨rfl, rfl⟩ o (fun o => ?_)
  refine mw_aload_n 0 dX12_init_116 rfl ?_
  refine mw_bipush (v := 25) dX12_init_117 (by decide) ?_
  refine ke_newa (t := 0) (N := 25) (z' := (13, 4051)) 13 rfl dX12_init_119 al_int (fun G => rfl) (by decide) (by decide) (by decide) ⟨Nat.le_of_ble_eq_true rfl, Nat.le_of_ble_eq_true rfl⟩ rfl (by omega) rfl rfl o (fun o => ?_)
  refine ke_putr 12 32 dX12_init_121 fl_X12_74 (by decide) (by decide) rfl (Or.inr ⟨rfl, rfl, rfl⟩) o (fun o => ?_)
  refine mw_aload_n 0 dX12_init_124 rfl ?_
  refine mw_iconst (v := -1) dX12_init_125 rfl ?_
  refine ke_puti 12 33 dX12_init_126 fl_X12_77 (by decide) (by decide) rfl rfl ⟨rfl, rfl⟩ o (fun o => ?_)
  refine mw_aload_n 0 dX12_init_129 rfl ?_
  refine mw_bipush (v := 40) dX12_init_130 (by decide) ?_
  refine ke_newa (t := 2) (N := 40) (z' := (14, 4091)) 14 rfl dX12_init_132 al_byte (fun G => rfl) (by decide) (by decide) (by decide) ⟨Nat.le_of_ble_eq_true rfl, Nat.le_of_ble_eq_true rfl⟩ rfl (by omega) rfl rfl o (fun o => ?_)
  refine ke_putr 12 35 dX12_init_134 fl_X12_80 (by decide) (by decide) rfl (Or.inr ⟨rfl, rfl, rfl⟩) o (fun o => ?_)
  refine mw_aload_n 0 dX12_init_137 rfl ?_
  refine mw_iconst (v := 4) dX12_init_138 rfl ?_
  refine ke_newa (t := 0) (N := 4) (z' := (15, 4095)) 15 rfl dX12_init_139 al_int (fun G => rfl) (by decide) (by decide) (by decide) ⟨Nat.le_of_ble_eq_true rfl, Nat.le_of_ble_eq_true rfl⟩ rfl (by omega) rfl rfl o (fun o => ?_)
  refine ke_putr 12 39 dX12_init_141 fl_X12_83 (by decide) (by decide) rfl (Or.inr ⟨rfl, rfl, rfl⟩) o (fun o => ?_)
  refine mw_aload_n 0 dX12_init_144 rfl ?_
  refine mw_bipush (v := 45) dX12_init_145 (by decide) ?_
  refine ke_newa (t := 0) (N := 45) (z' := (16, 4140)) 16 rfl dX12_init_147 al_int (fun G => rfl) (by decide) (by decide) (by decide) ⟨Nat.le_of_ble_eq_true rfl, Nat.le_of_ble_eq_true rfl⟩ rfl (by omega) rfl rfl o (fun o => ?_)
  refine ke_putr 12 41 dX12_init_149 fl_X12_86 (by decide) (by decide) rfl (Or.inr ⟨rfl, rfl, rfl⟩) o (fun o => ?_)
  refine mw_aload_n 0 dX12_init_152 rfl ?_
  refine mw_bipush (v := 45) dX12_init_153 (by decide) ?_
  refine ke_newa (t := 3) (N := 45) (z' := (17, 4185)) 17 rfl dX12_init_155 al_boolean (fun G => rfl) (by decide) (by decide) (by decide) ⟨Nat.le_of_ble_eq_true rfl, Nat.le_of_ble_eq_true rfl⟩ rfl (by omega) rfl rfl o (fun o => ?_)
  refine ke_putr 12 47 dX12_init_157 fl_X12_89 (by decide) (by decide) rfl (Or.inr ⟨rfl, rfl, rfl⟩) o (fun o => ?_)
  refine mw_aload_n 0 dX12_init_160 rfl ?_
  refine mw_sipush (v := 938) dX12_init_161 (by decide) ?_
  refine ke_newa (t := 0) (N := 938) (z' := (18, 5123)) 18 rfl dX12_init_164 al_int (fun G => rfl) (by decide) (by decide) (by decide) ⟨Nat.le_of_ble_eq_true rfl, Nat.le_of_ble_eq_true rfl⟩ rfl (by omega) rfl rfl o (fun o => ?_)
  refine ke_putr 12 48 dX12_init_166 fl_X12_93 (by decide) (by decide) rfl (Or.inr ⟨rfl, rfl, rfl⟩) o (fun o => ?_)
  refine mw_aload_n 0 dX12_init_169 rfl ?_
  refine mw_bipush (v := 82) dX12_init_170 (by decide) ?_
  refine ke_newa (t := 1) (N := 82) (z' := (19, 5205)) 19 rfl dX12_init_172 al_long (fun G => rfl) (by decide) (by decide) (by decide) ⟨Nat.le_of_ble_eq_true rfl, Nat.le_of_ble_eq_true rfl⟩ rfl (by omega) rfl rfl o (fun o => ?_)
  refine ke_putr 12 49 dX12_init_174 fl_X12_96 (by decide) (by decide) rfl (Or.inr ⟨rfl, rfl, rfl⟩) o (fun o => ?_)
  refine mw_aload_n 0 dX12_init_177 rfl ?_
  refine mw_iconst (v := 2) dX12_init_178 rfl ?_
  refine ke_newa (t := 3) (N := 2) (z' := (20, 5207)) 20 rfl dX12_init_179 al_boolean (fun G => rfl) (by decide) (by decide) (by decide) ⟨Nat.le_of_ble_eq_true rfl, Nat.le_of_ble_eq_true rfl⟩ rfl (by omega) rfl rfl o (fun o => ?_)
  refine ke_putr 12 50 dX12_init_181 fl_X12_99 (by decide) (by decide) rfl (Or.inr ⟨rfl, rfl, rfl⟩) o (fun o => ?_)
  refine mw_aload_n 0 dX12_init_184 rfl ?_
  refine ke_getr (b := a + 6) 12 10 dX12_init_185 fl_X12_47 (by decide) (by decide) rfl o rfl ?_
  refine mw_iconst (v := 0) dX12_init_188 rfl ?_
  refine mw_ldc2 dX12_init_189 cl_X12_102 ?_
  refine ke_last (n := 32) 6 0 dX12_init_192 ⟨Nat.le_of_ble_eq_true rfl, rfl⟩ (by decide) (by decide) rfl o (fun o => ?_)
  refine mw_aload_n 0 dX12_init_193 rfl ?_
  refine ke_getr (b := a + 6) 12 10 dX12_init_194 fl_X12_47 (by decide) (by decide) rfl o rfl ?_
  refine mw_iconst (v := 1) dX12_init_197 rfl ?_
  refine mw_ldc2 dX12_init_198 cl_X12_104 ?_
  refine ke_last (n := 32) 6 1 dX12_init_201 ⟨Nat.le_of_ble_eq_true rfl, rfl⟩ (by decide) (by decide) rfl o (fun o => ?_)
  refine mw_aload_n 0 dX12_init_202 rfl ?_
  refine ke_getr (b := a + 6) 12 10 dX12_init_203 fl_X12_47 (by decide) (by decide) rfl o rfl ?_
  refine mw_iconst (v := 2) dX12_init_206 rfl ?_
  refine mw_ldc2 dX12_init_207 cl_X12_106 ?_
  refine ke_last (n := 32) 6 2 dX12_init_210 ⟨Nat.le_of_ble_eq_true rfl, rfl⟩ (by decide) (by decide) rfl o (fun o => ?_)
  refine mw_aload_n 0 dX12_init_211 rfl ?_
  refine ke_getr (b := a + 6) 12 10 dX12_init_212 fl_X12_47 (by decide) (by decide) rfl o rfl ?_
  refine mw_iconst (v := 3) dX12_init_215 rfl ?_
  refine mw_ldc2 dX12_init_216 cl_X12_108 ?_
  refine ke_last (n := 32) 6 3 dX12_init_219 ⟨Nat.le_of_ble_eq_true rfl, rfl⟩ (by decide) (by decide) rfl o (fun o => ?_)
  refine mw_aload_n 0 dX12_init_220 rfl ?_
  refine ke_getr (b := a + 6) 12 10 dX12_init_221 fl_X12_47 (by decide) (by decide) rfl o rfl ?_
  refine mw_iconst (v := 4) dX12_init_224 rfl ?_
  refine mw_ldc2 dX12_init_225 cl_X12_110 ?_
  refine ke_last (n := 32) 6 4 dX12_init_228 ⟨Nat.le_of_ble_eq_true rfl, rfl⟩ (by decide) (by decide) rfl o (fun o => ?_)
  refine mw_aload_n 0 dX12_init_229 rfl ?_
  refine ke_getr (b := a + 6) 12 10 dX12_init_230 fl_X12_47 (by decide) (by decide) rfl o rfl ?_
  refine mw_iconst (v := 5) dX12_init_233 rfl ?_
  refine mw_ldc2 dX12_init_234 cl_X12_112 ?_
  refine ke_last (n := 32) 6 5 dX12_init_237 ⟨Nat.le_of_ble_eq_true rfl, rfl⟩ (by decide) (by decide) rfl o (fun o => ?_)
  refine mw_aload_n 0 dX12_init_238 rfl ?_
  refine ke_getr (b := a + 6) 12 10 dX12_init_239 fl_X12_47 (by decide) (by decide) rfl o rfl ?_
  refine mw_bipush (v := 6) dX12_init_242 (by decide) ?_
  refine mw_ldc2 dX12_init_244 cl_X12_114 ?_
  refine ke_last (n := 32) 6 6 dX12_init_247 ⟨Nat.le_of_ble_eq_true rfl, rfl⟩ (by decide) (by decide) rfl o (fun o => ?_)
  refine mw_aload_n 0 dX12_init_248 rfl ?_
  refine ke_getr (b := a + 6) 12 10 dX12_init_249 fl_X12_47 (by decide) (by decide) rfl o rfl ?_
  refine mw_bipush (v := 7) dX12_init_252 (by decide) ?_
  refine mw_ldc2 dX12_init_254 cl_X12_116 ?_
  refine ke_last (n := 32) 6 7 dX12_init_257 ⟨Nat.le_of_ble_eq_true rfl, rfl⟩ (by decide) (by decide) rfl o (fun o => ?_)
  refine mw_aload_n 0 dX12_init_258 rfl ?_
  refine ke_getr (b := a + 6) 12 10 dX12_init_259 fl_X12_47 (by decide) (by decide) rfl o rfl ?_
  refine mw_bipush (v := 8) dX12_init_262 (by decide) ?_
  refine mw_ldc2 dX12_init_264 cl_X12_118 ?_
  refine ke_last (n := 32) 6 8 dX12_init_267 ⟨Nat.le_of_ble_eq_true rfl, rfl⟩ (by decide) (by decide) rfl o (fun o => ?_)
  refine mw_aload_n 0 dX12_init_268 rfl ?_
  refine ke_getr (b := a + 6) 12 10 dX12_init_269 fl_X12_47 (by decide) (by decide) rfl o rfl ?_
  refine mw_bipush (v := 9) dX12_init_272 (by decide) ?_
  refine mw_ldc2 dX12_init_274 cl_X12_120 ?_
  refine ke_last (n := 32) 6 9 dX12_init_277 ⟨Nat.le_of_ble_eq_true rfl, rfl⟩ (by decide) (by decide) rfl o (fun o => ?_)
  refine mw_aload_n 0 dX12_init_278 rfl ?_
  refine ke_getr (b := a + 6) 12 10 dX12_init_279 fl_X12_47 (by decide) (by decide) rfl o rfl ?_
  refine mw_bipush (v := 10) dX12_init_282 (by decide) ?_
  refine mw_ldc2 dX12_init_284 cl_X12_122 ?_
  refine ke_last (n := 32) 6 10 dX12_init_287 ⟨Nat.le_of_ble_eq_true rfl, rfl⟩ (by decide) (by decide) rfl o (fun o => ?_)
  refine mw_aload_n 0 dX12_init_288 rfl ?_
  refine ke_getr (b := a + 6) 12 10 dX12_init_289 fl_X12_47 (by decide) (by decide) rfl o rfl ?_
  refine mw_bipush (v := 11) dX12_init_292 (by decide) ?_
  refine mw_ldc2 dX12_init_294 cl_X12_124 ?_
  refine ke_last (n := 32) 6 11 dX12_init_297 ⟨Nat.le_of_ble_eq_true rfl, rfl⟩ (by decide) (by decide) rfl o (fun o => ?_)
  refine mw_aload_n 0 dX12_init_298 rfl ?_
  refine ke_getr (b := a + 6) 12 10 dX12_init_299 fl_X12_47 (by decide) (by decide) rfl o rfl ?_
  refine mw_bipush (v := 12) dX12_init_302 (by decide) ?_
  refine mw_ldc2 dX12_init_304 cl_X12_126 ?_
  refine ke_last (n := 32) 6 12 dX12_init_307 ⟨Nat.le_of_ble_eq_true rfl, rfl⟩ (by decide) (by decide) rfl o (fun o => ?_)
  refine mw_aload_n 0 dX12_init_308 rfl ?_
  refine ke_getr (b := a + 6) 12 10 dX12_init_309 fl_X12_47 (by decide) (by decide) rfl o rfl ?_
  refine mw_bipush (v := 13) dX12_init_312 (by decide) ?_
  refine mw_ldc2 dX12_init_314 cl_X12_128 ?_
  refine ke_last (n := 32) 6 13 dX12_init_317 ⟨Nat.le_of_ble_eq_true rfl, rfl⟩ (by decide) (by decide) rfl o (fun o => ?_)
  refine mw_aload_n 0 dX12_init_318 rfl ?_
  refine ke_getr (b := a + 6) 12 10 dX12_init_319 fl_X12_47 (by decide) (by decide) rfl o rfl ?_
  refine mw_bipush (v := 14) dX12_init_322 (by decide) ?_
  refine mw_ldc2 dX12_init_324 cl_X12_130 ?_
  refine ke_last (n := 32) 6 14 dX12_init_327 ⟨Nat.le_of_ble_eq_true rfl, rfl⟩ (by decide) (by decide) rfl o (fun o => ?_)
  refine mw_aload_n 0 dX12_init_328 rfl ?_
  refine ke_getr (b := a + 6) 12 10 dX12_init_329 fl_X12_47 (by decide) (by decide) rfl o rfl ?_
  refine mw_bipush (v := 15) dX12_init_332 (by decide) ?_
  refine mw_ldc2 dX12_init_334 cl_X12_132 ?_
  refine ke_last (n := 32) 6 15 dX12_init_337 ⟨Nat.le_of_ble_eq_true rfl, rfl⟩ (by decide) (by decide) rfl o (fun o => ?_)
  refine mw_aload_n 0 dX12_init_338 rfl ?_
  refine ke_getr (b := a + 6) 12 10 dX12_init_339 fl_X12_47 (by decide) (by decide) rfl o rfl ?_
  refine mw_bipush (v := 16) dX12_init_342 (by decide) ?_
  refine mw_ldc2 dX12_init_344 cl_X12_134 ?_
  refine ke_last (n := 32) 6 16 dX12_init_347 ⟨Nat.le_of_ble_eq_true rfl, rfl⟩ (by decide) (by decide) rfl o (fun o => ?_)
  refine mw_aload_n 0 dX12_init_348 rfl ?_
  refine ke_getr (b := a + 6) 12 10 dX12_init_349 fl_X12_47 (by decide) (by decide) rfl o rfl ?_
  refine mw_bipush (v := 17) dX12_init_352 (by decide) ?_
  refine mw_ldc2 dX12_init_354 cl_X12_136 ?_
  refine ke_last (n := 32) 6 17 dX12_init_357 ⟨Nat.le_of_ble_eq_true rfl, rfl⟩ (by decide) (by decide) rfl o (fun o => ?_)
  refine mw_aload_n 0 dX12_init_358 rfl ?_
  refine ke_getr (b := a + 6) 12 10 dX12_init_359 fl_X12_47 (by decide) (by decide) rfl o rfl ?_
  refine mw_bipush (v := 18) dX12_init_362 (by decide) ?_
  refine mw_ldc2 dX12_init_364 cl_X12_138 ?_
  refine ke_last (n := 32) 6 18 dX12_init_367 ⟨Nat.le_of_ble_eq_true rfl, rfl⟩ (by decide) (by decide) rfl o (fun o => ?_)
  refine mw_aload_n 0 dX12_init_368 rfl ?_
  refine ke_getr (b := a + 6) 12 10 dX12_init_369 fl_X12_47 (by decide) (by decide) rfl o rfl ?_
  refine mw_bipush (v := 19) dX12_init_372 (by decide) ?_
  refine mw_ldc2 dX12_init_374 cl_X12_140 ?_
  refine ke_last (n := 32) 6 19 dX12_init_377 ⟨Nat.le_of_ble_eq_true rfl, rfl⟩ (by decide) (by decide) rfl o (fun o => ?_)
  refine mw_aload_n 0 dX12_init_378 rfl ?_
  refine ke_getr (b := a + 6) 12 10 dX12_init_379 fl_X12_47 (by decide) (by decide) rfl o rfl ?_
  refine mw_bipush (v := 20) dX12_init_382 (by decide) ?_
  refine mw_ldc2 dX12_init_384 cl_X12_142 ?_
  refine ke_last (n := 32) 6 20 dX12_init_387 ⟨Nat.le_of_ble_eq_true rfl, rfl⟩ (by decide) (by decide) rfl o (fun o => ?_)
  refine mw_aload_n 0 dX12_init_388 rfl ?_
  refine ke_getr (b := a + 6) 12 10 dX12_init_389 fl_X12_47 (by decide) (by decide) rfl o rfl ?_
  refine mw_bipush (v := 21) dX12_init_392 (by decide) ?_
  refine mw_ldc2 dX12_init_394 cl_X12_144 ?_
  refine ke_last (n := 32) 6 21 dX12_init_397 ⟨Nat.le_of_ble_eq_true rfl, rfl⟩ (by decide) (by decide) rfl o (fun o => ?_)
  refine mw_aload_n 0 dX12_init_398 rfl ?_
  refine ke_getr (b := a + 6) 12 10 dX12_init_399 fl_X12_47 (by decide) (by decide) rfl o rfl ?_
  refine mw_bipush (v := 22) dX12_init_402 (by decide) ?_
  refine mw_ldc2 dX12_init_404 cl_X12_146 ?_
  refine ke_last (n := 32) 6 22 dX12_init_407 ⟨Nat.le_of_ble_eq_true rfl, rfl⟩ (by decide) (by decide) rfl o (fun o => ?_)
  refine mw_aload_n 0 dX12_init_408 rfl ?_
  refine ke_getr (b := a + 6) 12 10 dX12_init_409 fl_X12_47 (by decide) (by decide) rfl o rfl ?_
  refine mw_bipush (v := 23) dX12_init_412 (by decide) ?_
  refine mw_ldc2 dX12_init_414 cl_X12_148 ?_
  refine ke_last (n := 32) 6 23 dX12_init_417 ⟨Nat.le_of_ble_eq_true rfl, rfl⟩ (by decide) (by decide) rfl o (fun o => ?_)
  refine mw_aload_n 0 dX12_init_418 rfl ?_
  refine ke_getr (b := a + 6) 12 10 dX12_init_419 fl_X12_47 (by decide) (by decide) rfl o rfl ?_
  refine mw_bipush (v := 24) dX12_init_422 (by decide) ?_
  refine mw_ldc2 dX12_init_424 cl_X12_150 ?_
  refine ke_last (n := 32) 6 24 dX12_init_427 ⟨Nat.le_of_ble_eq_true rfl, rfl⟩ (by decide) (by decide) rfl o (fun o => ?_)
  refine mw_aload_n 0 dX12_init_428 rfl ?_
  refine ke_getr (b := a + 6) 12 10 dX12_init_429 fl_X12_47 (by decide) (by decide) rfl o rfl ?_
  refine mw_bipush (v := 25) dX12_init_432 (by decide) ?_
  refine mw_ldc2 dX12_init_434 cl_X12_152 ?_
  refine ke_last (n := 32) 6 25 dX12_init_437 ⟨Nat.le_of_ble_eq_true rfl, rfl⟩ (by decide) (by decide) rfl o (fun o => ?_)
  refine mw_aload_n 0 dX12_init_438 rfl ?_
  refine ke_getr (b := a + 6) 12 10 dX12_init_439 fl_X12_47 (by decide) (by decide) rfl o rfl ?_
  refine mw_bipush (v := 26) dX12_init_442 (by decide) ?_
  refine mw_ldc2 dX12_init_444 cl_X12_154 ?_
  refine ke_last (n := 32) 6 26 dX12_init_447 ⟨Nat.le_of_ble_eq_true rfl, rfl⟩ (by decide) (by decide) rfl o (fun o => ?_)
  refine mw_aload_n 0 dX12_init_448 rfl ?_
  refine ke_getr (b := a + 6) 12 10 dX12_init_449 fl_X12_47 (by decide) (by decide) rfl o rfl ?_
  refine mw_bipush (v := 27) dX12_init_452 (by decide) ?_
  refine mw_ldc2 dX12_init_454 cl_X12_156 ?_
  refine ke_last (n := 32) 6 27 dX12_init_457 ⟨Nat.le_of_ble_eq_true rfl, rfl⟩ (by decide) (by decide) rfl o (fun o => ?_)
  refine mw_aload_n 0 dX12_init_458 rfl ?_
  refine ke_getr (b := a + 6) 12 10 dX12_init_459 fl_X12_47 (by decide) (by decide) rfl o rfl ?_
  refine mw_bipush (v := 28) dX12_init_462 (by decide) ?_
  refine mw_ldc2 dX12_init_464 cl_X12_158 ?_
  refine ke_last (n := 32) 6 28 dX12_init_467 ⟨Nat.le_of_ble_eq_true rfl, rfl⟩ (by decide) (by decide) rfl o (fun o => ?_)
  refine mw_aload_n 0 dX12_init_468 rfl ?_
  refine ke_getr (b := a + 6) 12 10 dX12_init_469 fl_X12_47 (by decide) (by decide) rfl o rfl ?_
  refine mw_bipush (v := 29) dX12_init_472 (by decide) ?_
  refine mw_ldc2 dX12_init_474 cl_X12_160 ?_
  refine ke_last (n := 32) 6 29 dX12_init_477 ⟨Nat.le_of_ble_eq_true rfl, rfl⟩ (by decide) (by decide) rfl o (fun o => ?_)
  refine mw_aload_n 0 dX12_init_478 rfl ?_
  refine ke_getr (b := a + 6) 12 10 dX12_init_479 fl_X12_47 (by decide) (by decide) rfl o rfl ?_
  refine mw_bipush (v := 30) dX12_init_482 (by decide) ?_
  refine mw_ldc2 dX12_init_484 cl_X12_162 ?_
  refine ke_last (n := 32) 6 30 dX12_init_487 ⟨Nat.le_of_ble_eq_true rfl, rfl⟩ (by decide) (by decide) rfl o (fun o => ?_)
  refine mw_aload_n 0 dX12_init_488 rfl ?_
  refine ke_getr (b := a + 6) 12 10 dX12_init_489 fl_X12_47 (by decide) (by decide) rfl o rfl ?_
  refine mw_bipush (v := 31) dX12_init_492 (by decide) ?_
  refine mw_ldc2 dX12_init_494 cl_X12_164 ?_
  refine ke_last (n := 32) 6 31 dX12_init_497 ⟨Nat.le_of_ble_eq_true rfl, rfl⟩ (by decide) (by decide) rfl o (fun o => ?_)
  exact kk
