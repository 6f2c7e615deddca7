set_option maxRecDepth 100000 in
set_option maxHeartbeats 4000000 in
theorem aX12_book (d : Nat) (q : m_S) (hM : isM q) (a1 : Int32) : AC rI yX12_book cX12_book 4 (some .int) (d + 7) [.ref 218, .int a1] q (fX12_book a1) := by
  refine ac_of (by decide +kernel) (Nat.le_of_ble_eq_true rfl) ?_
  unfold fX12_book
  show MF rI (yX12_book.cls, cX12_book, 4, (some .int), yX12_book.name, d + 7, 0, 0) 0 [(0, .ref 218), (1, .int a1)] [] q _
  refine mf_aload_n 0 dX12_book_0 rfl ?_
  refine mf_iconst (v := 0) dX12_book_1 rfl ?_
  refine mf_puti 12 0 dX12_book_2 fl_X12_1 (by decide) (by decide) rfl rfl (mo_o hM) ?_
  refine mf_iload_n 1 dX12_book_5 rfl ?_
  refine mf_iconst (v := 0) dX12_book_6 rfl ?_
  refine mf_iconst (v := 1) dX12_book_7 rfl ?_
  refine mf_cSi (rest := []) [.int a1, .int 0, .int 1] (aX12_isIn (d + 5) q a1 0 1) mY_X12_isIn dX12_book_8 ml_X12_211 rfl rfl (Nat.le_of_ble_eq_true rfl) rfl (fun v1 => ?_)
  refine mf_if_ne (tgt := 18) dX12_book_11 (by decide) ?_ ?_
  · refine mf_aload_n 0 dX12_book_18 rfl ?_
    refine mf_sipush (v := 400) dX12_book_19 (by decide) ?_
    refine mf_cVv (rest := []) [.int 400] (aX12_taken (d + 5) q hM 400) mY_X12_taken dX12_book_22 ml_X12_283 (mo_o hM) rfl rfl (Nat.le_of_ble_eq_true rfl) rfl (fun _ => ?_)
    refine mf_aload_n 0 dX12_book_25 rfl ?_
    refine mf_iconst (v := 0) dX12_book_26 rfl ?_
    refine mf_puti 12 15 dX12_book_27 fl_X12_196 (by decide) (by decide) rfl rfl (mo_o hM) ?_
    refine mf_aload_n 0 dX12_book_30 rfl ?_
    refine mf_iconst (v := 0) dX12_book_31 rfl ?_
    refine mf_puti 12 38 dX12_book_32 fl_X12_479 (by decide) (by decide) rfl rfl (mo_o hM) ?_
    refine mf_aload_n 0 dX12_book_35 rfl ?_
    refine mf_cVv (rest := []) [] (aX12_next (d + 4) q hM) mY_X12_next dX12_book_36 ml_X12_208 (mo_o hM) rfl rfl (Nat.le_of_ble_eq_true rfl) rfl (fun _ => ?_)
    refine mf_lz0 (fun L39 h39  => ?_) _
    show MF rI (yX12_book.cls, cX12_book, 4, (some .int), yX12_book.name, d + 7, 0, 0) 39 [(0, .ref 218), (1, .int a1)] [] q _
    refine mf_aload_n 0 dX12_book_39 rfl ?_
    refine mf_geti 12 11 dX12_book_40 fl_X12_179 (by decide) (by decide) rfl (mo_o hM) (fun v2 => ?_)
    refine mf_if_eq (tgt := 83) dX12_book_43 (by decide) ?_ ?_
    · refine mf_aload_n 0 dX12_book_83 rfl ?_
      refine mf_cVv (rest := []) [] (aX12_tries (d + 5) q hM) mY_X12_tries dX12_book_84 ml_X12_422 (mo_o hM) rfl rfl (Nat.le_of_ble_eq_true rfl) rfl (fun _ => ?_)
      refine mf_iconst (v := 0) dX12_book_87 rfl ?_
      refine mf_istore_n [(2, .int 0), (0, .ref 218), (1, .int a1)] dX12_book_88 (Nat.le_of_ble_eq_true rfl) rfl ?_
      refine mf_sub [1, 2, 0] rfl ?_
      refine mf_lz1 (lv := fun x3 => [(0, .ref 218), (1, .int a1), (2, .int x3)]) (fun L89 h89 x3 => ?_) _ _
      show MF rI (yX12_book.cls, cX12_book, 4, (some .int), yX12_book.name, d + 7, 0, 0) 89 [(0, .ref 218), (1, .int a1), (2, .int x3)] [] q _
      refine mf_iload_n 2 dX12_book_89 rfl ?_
      refine mf_iconst (v := 4) dX12_book_90 rfl ?_
      refine mf_icmp_ge (tgt := 107) dX12_book_91 (by decide) ?_ ?_
      · refine mf_iconst (v := -1) dX12_book_107 rfl ?_
        refine mf_istore_n [(2, .int (-1)), (0, .ref 218), (1, .int a1)] dX12_book_108 (Nat.le_of_ble_eq_true rfl) rfl ?_
        refine mf_iconst (v := 0) dX12_book_109 rfl ?_
        refine mf_istore_n [(3, .int 0), (2, .int (-1)), (0, .ref 218), (1, .int a1)] dX12_book_110 (Nat.le_of_ble_eq_true rfl) rfl ?_
        refine mf_sub [2, 3, 1, 0] rfl ?_
        refine mf_lz2 (lv := fun x4 x5 => [(0, .ref 218), (1, .int a1), (2, .int x4), (3, .int x5)]) (fun L111 h111 x4 x5 => ?_) _ _ _
        show MF rI (yX12_book.cls, cX12_book, 4, (some .int), yX12_book.name, d + 7, 0, 0) 111 [(0, .ref 218), (1, .int a1), (2, .int x4), (3, .int x5)] [] q _
        refine mf_iload_n 3 dX12_book_111 rfl ?_
        refine mf_aload_n 0 dX12_book_112 rfl ?_
        refine mf_geti 12 38 dX12_book_113 fl_X12_479 (by decide) (by decide) rfl (mo_o hM) (fun v6 => ?_)
        refine mf_jo0 (pj := 191) (lvj := [(0, .ref 218), (1, .int a1), (2, .int x4)]) (stj := []) ?_ (fun J191 hJ191 => ?_)
        · show MF rI (yX12_book.cls, cX12_book, 4, (some .int), yX12_book.name, d + 7, 0, 0) 191 [(0, .ref 218), (1, .int a1), (2, .int x4)] [] q _
          refine mf_aload_n 0 dX12_book_191 rfl ?_
          refine mf_getr 12 39 dX12_book_192 fl_X12_83 (by decide) (by decide) rfl (mo_o hM) (mo_r39 hM) (by decide) ?_
          refine mf_iconst (v := 2) dX12_book_195 rfl ?_
          refine mf_aload_n 0 dX12_book_196 rfl ?_
          refine mf_getr 12 6 dX12_book_197 fl_X12_33 (by decide) (by decide) rfl (mo_o hM) (mo_r6 hM) (by decide) ?_
          refine mf_sipush (v := 226) dX12_book_200 (by decide) ?_
          refine mf_iald dX12_book_203 (mo_a6 hM) (fun v7 => ?_)
          refine mf_iast dX12_book_204 (mo_a39 hM) ?_
          refine mf_aload_n 0 dX12_book_205 rfl ?_
          refine mf_getr 12 39 dX12_book_206 fl_X12_83 (by decide) (by decide) rfl (mo_o hM) (mo_r39 hM) (by decide) ?_
          refine mf_iconst (v := 3) dX12_book_209 rfl ?_
          refine mf_aload_n 0 dX12_book_210 rfl ?_
          refine mf_cVi (rest := [.int 3, .ref 233]) [] (aX12_busy (d + 5) q hM) mY_X12_busy dX12_book_211 ml_X12_345 (mo_o hM) rfl rfl (Nat.le_of_ble_eq_true rfl) rfl (fun v8 => ?_)
          refine mf_iast dX12_book_214 (mo_a39 hM) ?_
          refine mf_aload_n 0 dX12_book_215 rfl ?_
          refine mf_iconst (v := 1) dX12_book_216 rfl ?_
          refine mf_putzc 12 40 dX12_book_217 fl_X12_489 (by decide) (by decide) rfl rfl (mo_o hM) (by decide) ?_
          refine mf_iload_n 1 dX12_book_220 rfl ?_
          refine mf_iconst (v := 1) dX12_book_221 rfl ?_
          refine mf_icmp_ne (tgt := 274) dX12_book_222 (by decide) ?_ ?_
          · refine mf_iload_n 1 dX12_book_274 rfl ?_
            refine mf_if_ne (tgt := 282) dX12_book_275 (by decide) ?_ ?_
            · refine mf_iload_n 2 dX12_book_282 rfl ?_
              exact mf_ireturn dX12_book_283 rfl rfl ⟨rfl, rfl⟩
            · refine mf_aload_n 0 dX12_book_278 rfl ?_
              refine mf_cVv (rest := []) [] (aX12_brings (d + 5) q hM) mY_X12_brings dX12_book_279 ml_X12_425 (mo_o hM) rfl rfl (Nat.le_of_ble_eq_true rfl) rfl (fun _ => ?_)
              refine mf_iload_n 2 dX12_book_282 rfl ?_
              exact mf_ireturn dX12_book_283 rfl rfl ⟨rfl, rfl⟩
          · refine mf_aload_n 0 dX12_book_225 rfl ?_
            refine mf_getr 12 39 dX12_book_226 fl_X12_83 (by decide) (by decide) rfl (mo_o hM) (mo_r39 hM) (by decide) ?_
            refine mf_iconst (v := 1) dX12_book_229 rfl ?_
            refine mf_iald dX12_book_230 (mo_a39 hM) (fun v9 => ?_)
            refine mf_if_le (tgt := 274) dX12_book_231 (by decide) ?_ ?_
            · refine mf_iload_n 1 dX12_book_274 rfl ?_
              refine mf_if_ne (tgt := 282) dX12_book_275 (by decide) ?_ ?_
              · refine mf_iload_n 2 dX12_book_282 rfl ?_
                exact mf_ireturn dX12_book_283 rfl rfl ⟨rfl, rfl⟩
              · refine mf_aload_n 0 dX12_book_278 rfl ?_
                refine mf_cVv (rest := []) [] (aX12_brings (d + 5) q hM) mY_X12_brings dX12_book_279 ml_X12_425 (mo_o hM) rfl rfl (Nat.le_of_ble_eq_true rfl) rfl (fun _ => ?_)
                refine mf_iload_n 2 dX12_book_282 rfl ?_
                exact mf_ireturn dX12_book_283 rfl rfl ⟨rfl, rfl⟩
            · refine mf_aload_n 0 dX12_book_234 rfl ?_
              refine mf_cVv (rest := []) [] (aX12_stores (d + 5) q hM) mY_X12_stores dX12_book_235 ml_X12_379 (mo_o hM) rfl rfl (Nat.le_of_ble_eq_true rfl) rfl (fun _ => ?_)
              refine mf_iconst (v := 0) dX12_book_238 rfl ?_
              refine mf_istore_n [(3, .int 0), (0, .ref 218), (1, .int a1), (2, .int x4)] dX12_book_239 (Nat.le_of_ble_eq_true rfl) rfl ?_
              refine mf_sub [1, 2, 3, 0] rfl ?_
              refine mf_lz1 (lv := fun x10 => [(0, .ref 218), (1, .int a1), (2, .int x4), (3, .int x10)]) (fun L240 h240 x10 => ?_) _ _
              show MF rI (yX12_book.cls, cX12_book, 4, (some .int), yX12_book.name, d + 7, 0, 0) 240 [(0, .ref 218), (1, .int a1), (2, .int x4), (3, .int x10)] [] q _
              refine mf_iload_n 3 dX12_book_240 rfl ?_
              refine mf_bipush (v := 62) dX12_book_241 (by decide) ?_
              refine mf_icmp_ge (tgt := 274) dX12_book_243 (by decide) ?_ ?_
              · refine mf_iload_n 1 dX12_book_274 rfl ?_
                refine mf_if_ne (tgt := 282) dX12_book_275 (by decide) ?_ ?_
                · refine mf_iload_n 2 dX12_book_282 rfl ?_
                  exact mf_ireturn dX12_book_283 rfl rfl ⟨rfl, rfl⟩
                · refine mf_aload_n 0 dX12_book_278 rfl ?_
                  refine mf_cVv (rest := []) [] (aX12_brings (d + 5) q hM) mY_X12_brings dX12_book_279 ml_X12_425 (mo_o hM) rfl rfl (Nat.le_of_ble_eq_true rfl) rfl (fun _ => ?_)
                  refine mf_iload_n 2 dX12_book_282 rfl ?_
                  exact mf_ireturn dX12_book_283 rfl rfl ⟨rfl, rfl⟩
              · refine mf_aload_n 0 dX12_book_246 rfl ?_
                refine mf_getr 12 21 dX12_book_247 fl_X12_50 (by decide) (by decide) rfl (mo_o hM) (mo_r21 hM) (by decide) ?_
                refine mf_bipush (v := 62) dX12_book_250 (by decide) ?_
                refine mf_aload_n 0 dX12_book_252 rfl ?_
                refine mf_geti 12 23 dX12_book_253 fl_X12_295 (by decide) (by decide) rfl (mo_o hM) (fun v11 => ?_)
                refine mf_iconst (v := 1) dX12_book_256 rfl ?_
                refine mf_isub dX12_book_257 ?_
                refine mf_imul dX12_book_258 ?_
                refine mf_iload_n 3 dX12_book_259 rfl ?_
                refine mf_iadd dX12_book_260 ?_
                refine mf_aload_n 0 dX12_book_261 rfl ?_
                refine mf_getr 12 22 dX12_book_262 fl_X12_53 (by decide) (by decide) rfl (mo_o hM) (mo_r22 hM) (by decide) ?_
                refine mf_iload_n 3 dX12_book_265 rfl ?_
                refine mf_iald dX12_book_266 (mo_a22 hM) (fun v12 => ?_)
                refine mf_iast dX12_book_267 (mo_a21 hM) ?_
                refine mf_iinc 3 (x10 + 1) [(3, .int (x10 + 1)), (0, .ref 218), (1, .int a1), (2, .int x4)] dX12_book_268 rfl rfl (Nat.le_of_ble_eq_true rfl) rfl ?_
                refine mf_goto (tgt := 240) dX12_book_271 (by decide) ?_
                refine mf_sub [1, 2, 3, 0] rfl ?_
                exact h240 _
        refine mf_icmp_ge (tgt := 191) dX12_book_116 (by decide) ?_ ?_
        · refine mf_sub [0, 1, 2] rfl ?_
          exact hJ191
        · refine mf_iload_n 2 dX12_book_119 rfl ?_
          refine mf_if_ge (tgt := 191) dX12_book_120 (by decide) ?_ ?_
          · refine mf_sub [0, 1, 2] rfl ?_
            exact hJ191
          · refine mf_aload_n 0 dX12_book_123 rfl ?_
            refine mf_getr 12 39 dX12_book_124 fl_X12_83 (by decide) (by decide) rfl (mo_o hM) (mo_r39 hM) (by decide) ?_
            refine mf_iconst (v := 0) dX12_book_127 rfl ?_
            refine mf_aload_n 0 dX12_book_128 rfl ?_
            refine mf_aload_n 0 dX12_book_129 rfl ?_
            refine mf_getr 12 8 dX12_book_130 fl_X12_40 (by decide) (by decide) rfl (mo_o hM) (mo_r8 hM) (by decide) ?_
            refine mf_iconst (v := 3) dX12_book_133 rfl ?_
            refine mf_iload_n 3 dX12_book_134 rfl ?_
            refine mf_imul dX12_book_135 ?_
            refine mf_iald dX12_book_136 (mo_a8 hM) (fun v13 => ?_)
            refine mf_aload_n 0 dX12_book_137 rfl ?_
            refine mf_getr 12 8 dX12_book_138 fl_X12_40 (by decide) (by decide) rfl (mo_o hM) (mo_r8 hM) (by decide) ?_
            refine mf_iconst (v := 3) dX12_book_141 rfl ?_
            refine mf_iload_n 3 dX12_book_142 rfl ?_
            refine mf_imul dX12_book_143 ?_
            refine mf_iconst (v := 1) dX12_book_144 rfl ?_
            refine mf_iadd dX12_book_145 ?_
            refine mf_iald dX12_book_146 (mo_a8 hM) (fun v14 => ?_)
            refine mf_aload_n 0 dX12_book_147 rfl ?_
            refine mf_getr 12 8 dX12_book_148 fl_X12_40 (by decide) (by decide) rfl (mo_o hM) (mo_r8 hM) (by decide) ?_
            refine mf_iconst (v := 3) dX12_book_151 rfl ?_
            refine mf_iload_n 3 dX12_book_152 rfl ?_
            refine mf_imul dX12_book_153 ?_
            refine mf_iconst (v := 2) dX12_book_154 rfl ?_
            refine mf_iadd dX12_book_155 ?_
            refine mf_iald dX12_book_156 (mo_a8 hM) (fun v15 => ?_)
            refine mf_cVi (rest := [.int 0, .ref 233]) [.int v13, .int v14, .int v15] (aX12_does (d + 0) q hM v13 v14 v15) mY_X12_does dX12_book_157 ml_X12_485 (mo_o hM) rfl rfl (Nat.le_of_ble_eq_true rfl) rfl (fun v16 => ?_)
            refine mf_iast dX12_book_160 (mo_a39 hM) ?_
            refine mf_aload_n 0 dX12_book_161 rfl ?_
            refine mf_getr 12 39 dX12_book_162 fl_X12_83 (by decide) (by decide) rfl (mo_o hM) (mo_r39 hM) (by decide) ?_
            refine mf_iconst (v := 0) dX12_book_165 rfl ?_
            refine mf_iald dX12_book_166 (mo_a39 hM) (fun v17 => ?_)
            refine mf_if_le (tgt := 175) dX12_book_167 (by decide) ?_ ?_
            · refine mf_aload_n 0 dX12_book_175 rfl ?_
              refine mf_getr 12 39 dX12_book_176 fl_X12_83 (by decide) (by decide) rfl (mo_o hM) (mo_r39 hM) (by decide) ?_
              refine mf_iconst (v := 1) dX12_book_179 rfl ?_
              refine mf_dup2 dX12_book_180 rfl rfl ?_
              refine mf_iald dX12_book_181 (mo_a39 hM) (fun v18 => ?_)
              refine mf_iconst (v := 1) dX12_book_182 rfl ?_
              refine mf_iadd dX12_book_183 ?_
              refine mf_iast dX12_book_184 (mo_a39 hM) ?_
              refine mf_iinc 3 (x5 + 1) [(3, .int (x5 + 1)), (0, .ref 218), (1, .int a1), (2, .int x4)] dX12_book_185 rfl rfl (Nat.le_of_ble_eq_true rfl) rfl ?_
              refine mf_goto (tgt := 111) dX12_book_188 (by decide) ?_
              refine mf_sub [1, 2, 3, 0] rfl ?_
              exact h111 _ _
            · refine mf_iload_n 3 dX12_book_170 rfl ?_
              refine mf_istore_n [(2, .int x5), (0, .ref 218), (1, .int a1), (3, .int x5)] dX12_book_171 (Nat.le_of_ble_eq_true rfl) rfl ?_
              refine mf_goto (tgt := 185) dX12_book_172 (by decide) ?_
              refine mf_iinc 3 (x5 + 1) [(3, .int (x5 + 1)), (2, .int x5), (0, .ref 218), (1, .int a1)] dX12_book_185 rfl rfl (Nat.le_of_ble_eq_true rfl) rfl ?_
              refine mf_goto (tgt := 111) dX12_book_188 (by decide) ?_
              refine mf_sub [2, 3, 1, 0] rfl ?_
              exact h111 _ _
      · refine mf_aload_n 0 dX12_book_94 rfl ?_
        refine mf_getr 12 39 dX12_book_95 fl_X12_83 (by decide) (by decide) rfl (mo_o hM) (mo_r39 hM) (by decide) ?_
        refine mf_iload_n 2 dX12_book_98 rfl ?_
        refine mf_iconst (v := 0) dX12_book_99 rfl ?_
        refine mf_iast dX12_book_100 (mo_a39 hM) ?_
        refine mf_iinc 2 (x3 + 1) [(2, .int (x3 + 1)), (0, .ref 218), (1, .int a1)] dX12_book_101 rfl rfl (Nat.le_of_ble_eq_true rfl) rfl ?_
        refine mf_goto (tgt := 89) dX12_book_104 (by decide) ?_
        refine mf_sub [1, 2, 0] rfl ?_
        exact h89 _
    · refine mf_aload_n 0 dX12_book_46 rfl ?_
      refine mf_cVi (rest := []) [] (aX12_bookLine (d + 2) q hM) mY_X12_bookLine dX12_book_47 ml_X12_482 (mo_o hM) rfl rfl (Nat.le_of_ble_eq_true rfl) rfl (fun v19 => ?_)
      refine mf_if_eq (tgt := 62) dX12_book_50 (by decide) ?_ ?_
      · refine mf_bipush (v := -2) dX12_book_62 (by decide) ?_
        refine mf_aload_n 0 dX12_book_64 rfl ?_
        refine mf_geti 12 16 dX12_book_65 fl_X12_199 (by decide) (by decide) rfl (mo_o hM) (fun v20 => ?_)
        refine mf_isub dX12_book_68 ?_
        exact mf_ireturn dX12_book_69 rfl rfl ⟨rfl, rfl⟩
      · refine mf_aload_n 0 dX12_book_53 rfl ?_
        refine mf_bipush (v := 59) dX12_book_54 (by decide) ?_
        refine mf_cVi (rest := []) [.int 59] (aX12_sign (d + 3) q hM 59) mY_X12_sign dX12_book_56 ml_X12_292 (mo_o hM) rfl rfl (Nat.le_of_ble_eq_true rfl) rfl (fun v21 => ?_)
        refine mf_if_ne (tgt := 70) dX12_book_59 (by decide) ?_ ?_
        · refine mf_aload_n 0 dX12_book_70 rfl ?_
          refine mf_dup dX12_book_71 rfl ?_
          refine mf_geti 12 38 dX12_book_72 fl_X12_479 (by decide) (by decide) rfl (mo_o hM) (fun v22 => ?_)
          refine mf_iconst (v := 1) dX12_book_75 rfl ?_
          refine mf_iadd dX12_book_76 ?_
          refine mf_puti 12 38 dX12_book_77 fl_X12_479 (by decide) (by decide) rfl rfl (mo_o hM) ?_
          refine mf_goto (tgt := 39) dX12_book_80 (by decide) ?_
          exact h39
        · refine mf_bipush (v := -2) dX12_book_62 (by decide) ?_
          refine mf_aload_n 0 dX12_book_64 rfl ?_
          refine mf_geti 12 16 dX12_book_65 fl_X12_199 (by decide) (by decide) rfl (mo_o hM) (fun v23 => ?_)
          refine mf_isub dX12_book_68 ?_
          exact mf_ireturn dX12_book_69 rfl rfl ⟨rfl, rfl⟩
  · refine mf_sipush (v := -1000) dX12_book_14 (by decide) ?_
    exact mf_ireturn dX12_book_17 rfl rfl ⟨rfl, rfl⟩
set_option maxRecDepth 100000 in
set_option maxHeartbeats 4000000 in
theorem aX12_told (d : Nat) (q : m_S) (hM : isM q) (a1 : Int32) : AC rI yX12_told cX12_told 2 (some .int) (d + 2) [.ref 218, .int a1] q (fX12_told a1) := by
  refine ac_of (by decide +kernel) (Nat.le_of_ble_eq_true rfl) ?_
  unfold fX12_told
  show MF rI (yX12_told.cls, cX12_told, 2, (some .int), yX12_told.name, d + 2, 0, 0) 0 [(0, .ref 218), (1, .int a1)] [] q _
  refine mf_aload_n 0 dX12_told_0 rfl ?_
  refine mf_iconst (v := 0) dX12_told_1 rfl ?_
  refine mf_puti 12 0 dX12_told_2 fl_X12_1 (by decide) (by decide) rfl rfl (mo_o hM) ?_
  refine mf_aload_n 0 dX12_told_5 rfl ?_
  refine mf_geti 12 40 dX12_told_6 fl_X12_489 (by decide) (by decide) rfl (mo_o hM) (fun v1 => ?_)
  refine mf_if_eq (tgt := 30) dX12_told_9 (by decide) ?_ ?_
  · refine mf_iconst (v := -1) dX12_told_30 rfl ?_
    exact mf_ireturn dX12_told_31 rfl rfl ⟨rfl, rfl⟩
  · refine mf_iload_n 1 dX12_told_12 rfl ?_
    refine mf_iconst (v := 0) dX12_told_13 rfl ?_
    refine mf_iconst (v := 3) dX12_told_14 rfl ?_
    refine mf_cSi (rest := []) [.int a1, .int 0, .int 3] (aX12_isIn (d + 0) q a1 0 3) mY_X12_isIn dX12_told_15 ml_X12_211 rfl rfl (Nat.le_of_ble_eq_true rfl) rfl (fun v2 => ?_)
    refine mf_if_eq (tgt := 30) dX12_told_18 (by decide) ?_ ?_
    · refine mf_iconst (v := -1) dX12_told_30 rfl ?_
      exact mf_ireturn dX12_told_31 rfl rfl ⟨rfl, rfl⟩
    · refine mf_aload_n 0 dX12_told_21 rfl ?_
      refine mf_getr 12 39 dX12_told_22 fl_X12_83 (by decide) (by decide) rfl (mo_o hM) (mo_r39 hM) (by decide) ?_
      refine mf_iload_n 1 dX12_told_25 rfl ?_
      refine mf_iald dX12_told_26 (mo_a39 hM) (fun v3 => ?_)
      refine mf_goto (tgt := 31) dX12_told_27 (by decide) ?_
      exact mf_ireturn dX12_told_31 rfl rfl ⟨rfl, rfl⟩
set_option maxRecDepth 100000 in
set_option maxHeartbeats 4000000 in
theorem aX12_code (d : Nat) (q : m_S) (hM : isM q) (a1 : Int32) (a2 : Int32) (a3 : Int32) : AC rU yX12_code cX12_code 4 none (d + 1) [.ref 218, .int a1, .int a2, .int a3] q (fX12_code a1 a2 a3) := by
  refine ac_of (by decide +kernel) (Nat.le_of_ble_eq_true rfl) ?_
  unfold fX12_code
  show MF rU (yX12_code.cls, cX12_code, 4, none, yX12_code.name, d + 1, 0, 0) 0 [(0, .ref 218), (1, .int a1), (2, .int a2), (3, .int a3)] [] q _
  refine mf_aload_n 0 dX12_code_0 rfl ?_
  refine mf_getr 12 8 dX12_code_1 fl_X12_40 (by decide) (by decide) rfl (mo_o hM) (mo_r8 hM) (by decide) ?_
  refine mf_iconst (v := 3) dX12_code_4 rfl ?_
  refine mf_aload_n 0 dX12_code_5 rfl ?_
  refine mf_geti 12 42 dX12_code_6 fl_X12_492 (by decide) (by decide) rfl (mo_o hM) (fun v1 => ?_)
  refine mf_imul dX12_code_9 ?_
  refine mf_iload_n 1 dX12_code_10 rfl ?_
  refine mf_iast dX12_code_11 (mo_a8 hM) ?_
  refine mf_aload_n 0 dX12_code_12 rfl ?_
  refine mf_getr 12 8 dX12_code_13 fl_X12_40 (by decide) (by decide) rfl (mo_o hM) (mo_r8 hM) (by decide) ?_
  refine mf_iconst (v := 3) dX12_code_16 rfl ?_
  refine mf_aload_n 0 dX12_code_17 rfl ?_
  refine mf_geti 12 42 dX12_code_18 fl_X12_492 (by decide) (by decide) rfl (mo_o hM) (fun v2 => ?_)
  refine mf_imul dX12_code_21 ?_
  refine mf_iconst (v := 1) dX12_code_22 rfl ?_
  refine mf_iadd dX12_code_23 ?_
  refine mf_iload_n 2 dX12_code_24 rfl ?_
  refine mf_iast dX12_code_25 (mo_a8 hM) ?_
  refine mf_aload_n 0 dX12_code_26 rfl ?_
  refine mf_getr 12 8 dX12_code_27 fl_X12_40 (by decide) (by decide) rfl (mo_o hM) (mo_r8 hM) (by decide) ?_
  refine mf_iconst (v := 3) dX12_code_30 rfl ?_
  refine mf_aload_n 0 dX12_code_31 rfl ?_
  refine mf_geti 12 42 dX12_code_32 fl_X12_492 (by decide) (by decide) rfl (mo_o hM) (fun v3 => ?_)
  refine mf_imul dX12_code_35 ?_
  refine mf_iconst (v := 2) dX12_code_36 rfl ?_
  refine mf_iadd dX12_code_37 ?_
  refine mf_iload_n 3 dX12_code_38 rfl ?_
  refine mf_iast dX12_code_39 (mo_a8 hM) ?_
  refine mf_aload_n 0 dX12_code_40 rfl ?_
  refine mf_dup dX12_code_41 rfl ?_
  refine mf_geti 12 42 dX12_code_42 fl_X12_492 (by decide) (by decide) rfl (mo_o hM) (fun v4 => ?_)
  refine mf_iconst (v := 1) dX12_code_45 rfl ?_
  refine mf_iadd dX12_code_46 ?_
  refine mf_puti 12 42 dX12_code_47 fl_X12_492 (by decide) (by decide) rfl rfl (mo_o hM) ?_
  exact mf_return dX12_code_50 rfl ⟨rfl, rfl⟩
set_option maxRecDepth 100000 in
set_option maxHeartbeats 4000000 in
theorem aX12_joins (d : Nat) (q : m_S) (hM : isM q) (a1 : Int32) : AC rU yX12_joins cX12_joins 2 none (d + 2) [.ref 218, .int a1] q (fX12_joins a1) := by
  refine ac_of (by decide +kernel) (Nat.le_of_ble_eq_true rfl) ?_
  unfold fX12_joins
  show MF rU (yX12_joins.cls, cX12_joins, 2, none, yX12_joins.name, d + 2, 0, 0) 0 [(0, .ref 218), (1, .int a1)] [] q _
  refine mf_lz0 (fun L0 h0  => ?_) _
  show MF rU (yX12_joins.cls, cX12_joins, 2, none, yX12_joins.name, d + 2, 0, 0) 0 [(0, .ref 218), (1, .int a1)] [] q _
  refine mf_aload_n 0 dX12_joins_0 rfl ?_
  refine mf_geti 12 44 dX12_joins_1 fl_X12_495 (by decide) (by decide) rfl (mo_o hM) (fun v1 => ?_)
  refine mf_if_le (tgt := 73) dX12_joins_4 (by decide) ?_ ?_
  · exact mf_return dX12_joins_73 rfl ⟨rfl, rfl⟩
  · refine mf_aload_n 0 dX12_joins_7 rfl ?_
    refine mf_getr 12 41 dX12_joins_8 fl_X12_86 (by decide) (by decide) rfl (mo_o hM) (mo_r41 hM) (by decide) ?_
    refine mf_aload_n 0 dX12_joins_11 rfl ?_
    refine mf_geti 12 44 dX12_joins_12 fl_X12_495 (by decide) (by decide) rfl (mo_o hM) (fun v2 => ?_)
    refine mf_iconst (v := 1) dX12_joins_15 rfl ?_
    refine mf_isub dX12_joins_16 ?_
    refine mf_iald dX12_joins_17 (mo_a41 hM) (fun v3 => ?_)
    refine mf_bipush (v := 21) dX12_joins_18 (by decide) ?_
    refine mf_jo0 (pj := 45) (lvj := [(0, .ref 218), (1, .int a1)]) (stj := []) ?_ (fun J45 hJ45 => ?_)
    · show MF rU (yX12_joins.cls, cX12_joins, 2, none, yX12_joins.name, d + 2, 0, 0) 45 [(0, .ref 218), (1, .int a1)] [] q _
      refine mf_aload_n 0 dX12_joins_45 rfl ?_
      refine mf_dup dX12_joins_46 rfl ?_
      refine mf_geti 12 44 dX12_joins_47 fl_X12_495 (by decide) (by decide) rfl (mo_o hM) (fun v4 => ?_)
      refine mf_iconst (v := 1) dX12_joins_50 rfl ?_
      refine mf_isub dX12_joins_51 ?_
      refine mf_puti 12 44 dX12_joins_52 fl_X12_495 (by decide) (by decide) rfl rfl (mo_o hM) ?_
      refine mf_aload_n 0 dX12_joins_55 rfl ?_
      refine mf_aload_n 0 dX12_joins_56 rfl ?_
      refine mf_getr 12 41 dX12_joins_57 fl_X12_86 (by decide) (by decide) rfl (mo_o hM) (mo_r41 hM) (by decide) ?_
      refine mf_aload_n 0 dX12_joins_60 rfl ?_
      refine mf_geti 12 44 dX12_joins_61 fl_X12_495 (by decide) (by decide) rfl (mo_o hM) (fun v5 => ?_)
      refine mf_iald dX12_joins_64 (mo_a41 hM) (fun v6 => ?_)
      refine mf_iconst (v := 0) dX12_joins_65 rfl ?_
      refine mf_iconst (v := 0) dX12_joins_66 rfl ?_
      refine mf_cVv (rest := []) [.int v6, .int 0, .int 0] (aX12_code (d + 0) q hM v6 0 0) mY_X12_code dX12_joins_67 ml_X12_498 (mo_o hM) rfl rfl (Nat.le_of_ble_eq_true rfl) rfl (fun _ => ?_)
      refine mf_goto (tgt := 0) dX12_joins_70 (by decide) ?_
      exact h0
    refine mf_icmp_eq (tgt := 45) dX12_joins_20 (by decide) ?_ ?_
    · exact hJ45
    · refine mf_aload_n 0 dX12_joins_23 rfl ?_
      refine mf_getr 12 41 dX12_joins_24 fl_X12_86 (by decide) (by decide) rfl (mo_o hM) (mo_r41 hM) (by decide) ?_
      refine mf_aload_n 0 dX12_joins_27 rfl ?_
      refine mf_geti 12 44 dX12_joins_28 fl_X12_495 (by decide) (by decide) rfl (mo_o hM) (fun v7 => ?_)
      refine mf_iconst (v := 1) dX12_joins_31 rfl ?_
      refine mf_isub dX12_joins_32 ?_
      refine mf_iald dX12_joins_33 (mo_a41 hM) (fun v8 => ?_)
      refine mf_bipush (v := 22) dX12_joins_34 (by decide) ?_
      refine mf_icmp_ne (tgt := 73) dX12_joins_36 (by decide) ?_ ?_
      · exact mf_return dX12_joins_73 rfl ⟨rfl, rfl⟩
      · refine mf_iload_n 1 dX12_joins_39 rfl ?_
        refine mf_bipush (v := 22) dX12_joins_40 (by decide) ?_
        refine mf_icmp_ne (tgt := 73) dX12_joins_42 (by decide) ?_ ?_
        · exact mf_return dX12_joins_73 rfl ⟨rfl, rfl⟩
        · exact hJ45
set_option maxRecDepth 100000 in
set_option maxHeartbeats 4000000 in
theorem aX12_nots (d : Nat) (q : m_S) (hM : isM q)  : AC rU yX12_nots cX12_nots 1 none (d + 2) [.ref 218] q (fX12_nots ) := by
  refine ac_of (by decide +kernel) (Nat.le_of_ble_eq_true rfl) ?_
  unfold fX12_nots
  show MF rU (yX12_nots.cls, cX12_nots, 1, none, yX12_nots.name, d + 2, 0, 0) 0 [(0, .ref 218)] [] q _
  refine mf_lz0 (fun L0 h0  => ?_) _
  show MF rU (yX12_nots.cls, cX12_nots, 1, none, yX12_nots.name, d + 2, 0, 0) 0 [(0, .ref 218)] [] q _
  refine mf_aload_n 0 dX12_nots_0 rfl ?_
  refine mf_geti 12 44 dX12_nots_1 fl_X12_495 (by decide) (by decide) rfl (mo_o hM) (fun v1 => ?_)
  refine mf_if_le (tgt := 54) dX12_nots_4 (by decide) ?_ ?_
  · exact mf_return dX12_nots_54 rfl ⟨rfl, rfl⟩
  · refine mf_aload_n 0 dX12_nots_7 rfl ?_
    refine mf_getr 12 41 dX12_nots_8 fl_X12_86 (by decide) (by decide) rfl (mo_o hM) (mo_r41 hM) (by decide) ?_
    refine mf_aload_n 0 dX12_nots_11 rfl ?_
    refine mf_geti 12 44 dX12_nots_12 fl_X12_495 (by decide) (by decide) rfl (mo_o hM) (fun v2 => ?_)
    refine mf_iconst (v := 1) dX12_nots_15 rfl ?_
    refine mf_isub dX12_nots_16 ?_
    refine mf_iald dX12_nots_17 (mo_a41 hM) (fun v3 => ?_)
    refine mf_bipush (v := 20) dX12_nots_18 (by decide) ?_
    refine mf_icmp_ne (tgt := 54) dX12_nots_20 (by decide) ?_ ?_
    · exact mf_return dX12_nots_54 rfl ⟨rfl, rfl⟩
    · refine mf_aload_n 0 dX12_nots_23 rfl ?_
      refine mf_dup dX12_nots_24 rfl ?_
      refine mf_geti 12 44 dX12_nots_25 fl_X12_495 (by decide) (by decide) rfl (mo_o hM) (fun v4 => ?_)
      refine mf_iconst (v := 1) dX12_nots_28 rfl ?_
      refine mf_isub dX12_nots_29 ?_
      refine mf_puti 12 44 dX12_nots_30 fl_X12_495 (by decide) (by decide) rfl rfl (mo_o hM) ?_
      refine mf_aload_n 0 dX12_nots_33 rfl ?_
      refine mf_dup dX12_nots_34 rfl ?_
      refine mf_geti 12 45 dX12_nots_35 fl_X12_502 (by decide) (by decide) rfl (mo_o hM) (fun v5 => ?_)
      refine mf_iconst (v := 1) dX12_nots_38 rfl ?_
      refine mf_isub dX12_nots_39 ?_
      refine mf_puti 12 45 dX12_nots_40 fl_X12_502 (by decide) (by decide) rfl rfl (mo_o hM) ?_
      refine mf_aload_n 0 dX12_nots_43 rfl ?_
      refine mf_bipush (v := 20) dX12_nots_44 (by decide) ?_
      refine mf_iconst (v := 0) dX12_nots_46 rfl ?_
      refine mf_iconst (v := 0) dX12_nots_47 rfl ?_
      refine mf_cVv (rest := []) [.int 20, .int 0, .int 0] (aX12_code (d + 0) q hM 20 0 0) mY_X12_code dX12_nots_48 ml_X12_498 (mo_o hM) rfl rfl (Nat.le_of_ble_eq_true rfl) rfl (fun _ => ?_)
      refine mf_goto (tgt := 0) dX12_nots_51 (by decide) ?_
      exact h0
set_option maxRecDepth 100000 in
set_option maxHeartbeats 4000000 in
theorem aX12_leafOf (d : Nat) (q : m_S) (hM : isM q)  : AC rI yX12_leafOf cX12_leafOf 1 (some .int) (d + 2) [.ref 218] q (fX12_leafOf ) := by
  refine ac_of (by decide +kernel) (Nat.le_of_ble_eq_true rfl) ?_
  unfold fX12_leafOf
  show MF rI (yX12_leafOf.cls, cX12_leafOf, 1, (some .int), yX12_leafOf.name, d + 2, 0, 0) 0 [(0, .ref 218)] [] q _
  refine mf_aload_n 0 dX12_leafOf_0 rfl ?_
  refine mf_ldc2 dX12_leafOf_1 cl_X12_150 ?_
  refine mf_cVi (rest := []) [.long 7304564] (aX12_isWord (d + 0) q hM 7304564) mY_X12_isWord dX12_leafOf_4 ml_X12_233 (mo_o hM) rfl rfl (Nat.le_of_ble_eq_true rfl) rfl (fun v1 => ?_)
  refine mf_if_eq (tgt := 14) dX12_leafOf_7 (by decide) ?_ ?_
  · refine mf_aload_n 0 dX12_leafOf_14 rfl ?_
    refine mf_ldc2 dX12_leafOf_15 cl_X12_152 ?_
    refine mf_cVi (rest := []) [.long 27991785567970660] (aX12_isWord (d + 0) q hM 27991785567970660) mY_X12_isWord dX12_leafOf_18 ml_X12_233 (mo_o hM) rfl rfl (Nat.le_of_ble_eq_true rfl) rfl (fun v2 => ?_)
    refine mf_if_eq (tgt := 28) dX12_leafOf_21 (by decide) ?_ ?_
    · refine mf_aload_n 0 dX12_leafOf_28 rfl ?_
      refine mf_ldc2 dX12_leafOf_29 cl_X12_154 ?_
      refine mf_cVi (rest := []) [.long 33602627781095015] (aX12_isWord (d + 0) q hM 33602627781095015) mY_X12_isWord dX12_leafOf_32 ml_X12_233 (mo_o hM) rfl rfl (Nat.le_of_ble_eq_true rfl) rfl (fun v3 => ?_)
      refine mf_if_eq (tgt := 42) dX12_leafOf_35 (by decide) ?_ ?_
      · refine mf_aload_n 0 dX12_leafOf_42 rfl ?_
        refine mf_ldc2 dX12_leafOf_43 cl_X12_156 ?_
        refine mf_cVi (rest := []) [.long 26990] (aX12_isWord (d + 0) q hM 26990) mY_X12_isWord dX12_leafOf_46 ml_X12_233 (mo_o hM) rfl rfl (Nat.le_of_ble_eq_true rfl) rfl (fun v4 => ?_)
        refine mf_if_eq (tgt := 56) dX12_leafOf_49 (by decide) ?_ ?_
        · refine mf_aload_n 0 dX12_leafOf_56 rfl ?_
          refine mf_ldc2 dX12_leafOf_57 cl_X12_158 ?_
          refine mf_cVi (rest := []) [.long 504447463015] (aX12_isWord (d + 0) q hM 504447463015) mY_X12_isWord dX12_leafOf_60 ml_X12_233 (mo_o hM) rfl rfl (Nat.le_of_ble_eq_true rfl) rfl (fun v5 => ?_)
          refine mf_if_eq (tgt := 70) dX12_leafOf_63 (by decide) ?_ ?_
          · refine mf_aload_n 0 dX12_leafOf_70 rfl ?_
            refine mf_ldc2 dX12_leafOf_71 cl_X12_160 ?_
            refine mf_cVi (rest := []) [.long 499984329587] (aX12_isWord (d + 0) q hM 499984329587) mY_X12_isWord dX12_leafOf_74 ml_X12_233 (mo_o hM) rfl rfl (Nat.le_of_ble_eq_true rfl) rfl (fun v6 => ?_)
            refine mf_if_eq (tgt := 84) dX12_leafOf_77 (by decide) ?_ ?_
            · refine mf_aload_n 0 dX12_leafOf_84 rfl ?_
              refine mf_ldc2 dX12_leafOf_85 cl_X12_162 ?_
              refine mf_cVi (rest := []) [.long 131260264768868] (aX12_isWord (d + 0) q hM 131260264768868) mY_X12_isWord dX12_leafOf_88 ml_X12_233 (mo_o hM) rfl rfl (Nat.le_of_ble_eq_true rfl) rfl (fun v7 => ?_)
              refine mf_if_eq (tgt := 99) dX12_leafOf_91 (by decide) ?_ ?_
              · refine mf_aload_n 0 dX12_leafOf_99 rfl ?_
                refine mf_ldc2 dX12_leafOf_100 cl_X12_164 ?_
                refine mf_cVi (rest := []) [.long 121450625394034] (aX12_isWord (d + 0) q hM 121450625394034) mY_X12_isWord dX12_leafOf_103 ml_X12_233 (mo_o hM) rfl rfl (Nat.le_of_ble_eq_true rfl) rfl (fun v8 => ?_)
                refine mf_if_eq (tgt := 114) dX12_leafOf_106 (by decide) ?_ ?_
                · refine mf_iconst (v := -1) dX12_leafOf_114 rfl ?_
                  exact mf_ireturn dX12_leafOf_115 rfl rfl ⟨rfl, rfl⟩
                · refine mf_bipush (v := 7) dX12_leafOf_109 (by decide) ?_
                  refine mf_goto (tgt := 115) dX12_leafOf_111 (by decide) ?_
                  exact mf_ireturn dX12_leafOf_115 rfl rfl ⟨rfl, rfl⟩
              · refine mf_bipush (v := 6) dX12_leafOf_94 (by decide) ?_
                refine mf_goto (tgt := 115) dX12_leafOf_96 (by decide) ?_
                exact mf_ireturn dX12_leafOf_115 rfl rfl ⟨rfl, rfl⟩
            · refine mf_iconst (v := 5) dX12_leafOf_80 rfl ?_
              refine mf_goto (tgt := 115) dX12_leafOf_81 (by decide) ?_
              exact mf_ireturn dX12_leafOf_115 rfl rfl ⟨rfl, rfl⟩
          · refine mf_iconst (v := 4) dX12_leafOf_66 rfl ?_
            refine mf_goto (tgt := 115) dX12_leafOf_67 (by decide) ?_
            exact mf_ireturn dX12_leafOf_115 rfl rfl ⟨rfl, rfl⟩
        · refine mf_iconst (v := 3) dX12_leafOf_52 rfl ?_
          refine mf_goto (tgt := 115) dX12_leafOf_53 (by decide) ?_
          exact mf_ireturn dX12_leafOf_115 rfl rfl ⟨rfl, rfl⟩
      · refine mf_iconst (v := 2) dX12_leafOf_38 rfl ?_
        refine mf_goto (tgt := 115) dX12_leafOf_39 (by decide) ?_
        exact mf_ireturn dX12_leafOf_115 rfl rfl ⟨rfl, rfl⟩
    · refine mf_iconst (v := 1) dX12_leafOf_24 rfl ?_
      refine mf_goto (tgt := 115) dX12_leafOf_25 (by decide) ?_
      exact mf_ireturn dX12_leafOf_115 rfl rfl ⟨rfl, rfl⟩
  · refine mf_iconst (v := 0) dX12_leafOf_10 rfl ?_
    refine mf_goto (tgt := 115) dX12_leafOf_11 (by decide) ?_
    exact mf_ireturn dX12_leafOf_115 rfl rfl ⟨rfl, rfl⟩
set_option maxRecDepth 100000 in
set_option maxHeartbeats 4000000 in
theorem aX12_operand (d : Nat) (q : m_S) (hM : isM q)  : AC rI yX12_operand cX12_operand 5 (some .boolean) (d + 3) [.ref 218] q (fX12_operand ) := by
  refine ac_of (by decide +kernel) (Nat.le_of_ble_eq_true rfl) ?_
  unfold fX12_operand
  show MF rI (yX12_operand.cls, cX12_operand, 5, (some .boolean), yX12_operand.name, d + 3, 0, 0) 0 [(0, .ref 218)] [] q _
  refine mf_aload_n 0 dX12_operand_0 rfl ?_
  refine mf_ldc2 dX12_operand_1 cl_X12_148 ?_
  refine mf_cVi (rest := []) [.long 7237492] (aX12_isWord (d + 1) q hM 7237492) mY_X12_isWord dX12_operand_4 ml_X12_233 (mo_o hM) rfl rfl (Nat.le_of_ble_eq_true rfl) rfl (fun v1 => ?_)
  refine mf_istore_n [(1, .int v1), (0, .ref 218)] dX12_operand_7 (Nat.le_of_ble_eq_true rfl) rfl ?_
  refine mf_aload_n 1 dX12_operand_8 rfl ?_
  refine mf_bipush (v := 40) dX12_operand_9 (by decide) ?_
  refine mf_cVi (rest := []) [.int 40] (aX12_isSign (d + 1) q hM 40) mY_X12_isSign dX12_operand_11 ml_X12_202 (mo_o hM) rfl rfl (Nat.le_of_ble_eq_true rfl) rfl (fun v2 => ?_)
  refine mf_istore_n [(2, .int v2), (1, .int v1), (0, .ref 218)] dX12_operand_14 (Nat.le_of_ble_eq_true rfl) rfl ?_
  refine mf_aload_n 2 dX12_operand_15 rfl ?_
  refine mf_cVi (rest := []) [] (aX12_leafOf (d + 0) q hM) mY_X12_leafOf dX12_operand_16 ml_X12_505 (mo_o hM) rfl rfl (Nat.le_of_ble_eq_true rfl) rfl (fun v3 => ?_)
  refine mf_istore_n [(3, .int v3), (2, .int v2), (1, .int v1), (0, .ref 218)] dX12_operand_19 (Nat.le_of_ble_eq_true rfl) rfl ?_
  refine mf_iload_n 2 dX12_operand_20 rfl ?_
  refine mf_jo0 (pj := 38) (lvj := [(0, .ref 218), (1, .int v1), (2, .int v2), (3, .int v3)]) (stj := []) ?_ (fun J38 hJ38 => ?_)
  · show MF rI (yX12_operand.cls, cX12_operand, 5, (some .boolean), yX12_operand.name, d + 3, 0, 0) 38 [(0, .ref 218), (1, .int v1), (2, .int v2), (3, .int v3)] [] q _
    refine mf_aload_n 0 dX12_operand_38 rfl ?_
    refine mf_geti 12 43 dX12_operand_39 fl_X12_508 (by decide) (by decide) rfl (mo_o hM) (fun v4 => ?_)
    refine mf_bipush (v := 20) dX12_operand_42 (by decide) ?_
    refine mf_icmp_eq (tgt := 56) dX12_operand_44 (by decide) ?_ ?_
    · refine mf_aload_n 0 dX12_operand_56 rfl ?_
      refine mf_iconst (v := 4) dX12_operand_57 rfl ?_
      refine mf_cVi (rest := []) [.int 4] (aX12_bad (d + 1) q hM 4) mY_X12_bad dX12_operand_58 ml_X12_205 (mo_o hM) rfl rfl (Nat.le_of_ble_eq_true rfl) rfl (fun v5 => ?_)
      exact mf_zreturn dX12_operand_61 rfl ⟨rfl, rfl⟩
    · refine mf_aload_n 0 dX12_operand_47 rfl ?_
      refine mf_geti 12 45 dX12_operand_48 fl_X12_502 (by decide) (by decide) rfl (mo_o hM) (fun v6 => ?_)
      refine mf_bipush (v := 8) dX12_operand_51 (by decide) ?_
      refine mf_icmp_le (tgt := 62) dX12_operand_53 (by decide) ?_ ?_
      · refine mf_aload_n 0 dX12_operand_62 rfl ?_
        refine mf_dup dX12_operand_63 rfl ?_
        refine mf_geti 12 43 dX12_operand_64 fl_X12_508 (by decide) (by decide) rfl (mo_o hM) (fun v7 => ?_)
        refine mf_iconst (v := 1) dX12_operand_67 rfl ?_
        refine mf_iadd dX12_operand_68 ?_
        refine mf_puti 12 43 dX12_operand_69 fl_X12_508 (by decide) (by decide) rfl rfl (mo_o hM) ?_
        refine mf_aload_n 0 dX12_operand_72 rfl ?_
        refine mf_cVv (rest := []) [] (aX12_next (d + 0) q hM) mY_X12_next dX12_operand_73 ml_X12_208 (mo_o hM) rfl rfl (Nat.le_of_ble_eq_true rfl) rfl (fun _ => ?_)
        refine mf_iload_n 1 dX12_operand_76 rfl ?_
        refine mf_if_ne (tgt := 84) dX12_operand_77 (by decide) ?_ ?_
        · refine mf_aload_n 0 dX12_operand_84 rfl ?_
          refine mf_getr 12 41 dX12_operand_85 fl_X12_86 (by decide) (by decide) rfl (mo_o hM) (mo_r41 hM) (by decide) ?_
          refine mf_aload_n 0 dX12_operand_88 rfl ?_
          refine mf_geti 12 44 dX12_operand_89 fl_X12_495 (by decide) (by decide) rfl (mo_o hM) (fun v8 => ?_)
          refine mf_iload_n 1 dX12_operand_92 rfl ?_
          refine mf_jo2 (pj := 103) (lvj := fun w9 w10 => [(0, .ref 218)]) (stj := fun w9 w10 => [.int w9, .int w10, .ref 234]) (fun w9 w10 => ?_) (fun J103 hJ103 => ?_)
          · show MF rI (yX12_operand.cls, cX12_operand, 5, (some .boolean), yX12_operand.name, d + 3, 0, 0) 103 [(0, .ref 218)] [.int w9, .int w10, .ref 234] q _
            refine mf_iast dX12_operand_103 (mo_a41 hM) ?_
            refine mf_aload_n 0 dX12_operand_104 rfl ?_
            refine mf_dup dX12_operand_105 rfl ?_
            refine mf_geti 12 44 dX12_operand_106 fl_X12_495 (by decide) (by decide) rfl (mo_o hM) (fun v11 => ?_)
            refine mf_iconst (v := 1) dX12_operand_109 rfl ?_
            refine mf_iadd dX12_operand_110 ?_
            refine mf_puti 12 44 dX12_operand_111 fl_X12_495 (by decide) (by decide) rfl rfl (mo_o hM) ?_
            refine mf_aload_n 0 dX12_operand_114 rfl ?_
            refine mf_dup dX12_operand_115 rfl ?_
            refine mf_geti 12 45 dX12_operand_116 fl_X12_502 (by decide) (by decide) rfl (mo_o hM) (fun v12 => ?_)
            refine mf_iconst (v := 1) dX12_operand_119 rfl ?_
            refine mf_iadd dX12_operand_120 ?_
            refine mf_puti 12 45 dX12_operand_121 fl_X12_502 (by decide) (by decide) rfl rfl (mo_o hM) ?_
            refine mf_iconst (v := 1) dX12_operand_124 rfl ?_
            exact mf_ireturn dX12_operand_125 rfl rfl ⟨rfl, rfl⟩
          refine mf_if_eq (tgt := 101) dX12_operand_93 (by decide) ?_ ?_
          · refine mf_bipush (v := 23) dX12_operand_101 (by decide) ?_
            refine mf_sub [0] rfl ?_
            exact hJ103 _ _
          · refine mf_bipush (v := 20) dX12_operand_96 (by decide) ?_
            refine mf_goto (tgt := 103) dX12_operand_98 (by decide) ?_
            refine mf_sub [0] rfl ?_
            exact hJ103 _ _
        · refine mf_iload_n 2 dX12_operand_80 rfl ?_
          refine mf_if_eq (tgt := 126) dX12_operand_81 (by decide) ?_ ?_
          · refine mf_aload_n 0 dX12_operand_126 rfl ?_
            refine mf_iconst (v := 1) dX12_operand_127 rfl ?_
            refine mf_putzc 12 46 dX12_operand_128 fl_X12_511 (by decide) (by decide) rfl rfl (mo_o hM) (by decide) ?_
            refine mf_iload_n 3 dX12_operand_131 rfl ?_
            refine mf_iconst (v := 3) dX12_operand_132 rfl ?_
            refine mf_icmp_ge (tgt := 145) dX12_operand_133 (by decide) ?_ ?_
            · refine mf_iload_n 3 dX12_operand_145 rfl ?_
              refine mf_iconst (v := 5) dX12_operand_146 rfl ?_
              refine mf_icmp_ge (tgt := 206) dX12_operand_147 (by decide) ?_ ?_
              · refine mf_aload_n 0 dX12_operand_206 rfl ?_
                refine mf_geti 12 11 dX12_operand_207 fl_X12_179 (by decide) (by decide) rfl (mo_o hM) (fun v13 => ?_)
                refine mf_iconst (v := 3) dX12_operand_210 rfl ?_
                refine mf_icmp_ne (tgt := 232) dX12_operand_211 (by decide) ?_ ?_
                · refine mf_aload_n 0 dX12_operand_232 rfl ?_
                  refine mf_iconst (v := 1) dX12_operand_233 rfl ?_
                  refine mf_cVi (rest := []) [.int 1] (aX12_bad (d + 1) q hM 1) mY_X12_bad dX12_operand_234 ml_X12_205 (mo_o hM) rfl rfl (Nat.le_of_ble_eq_true rfl) rfl (fun v14 => ?_)
                  exact mf_zreturn dX12_operand_237 rfl ⟨rfl, rfl⟩
                · refine mf_aload_n 0 dX12_operand_214 rfl ?_
                  refine mf_geti 12 14 dX12_operand_215 fl_X12_189 (by decide) (by decide) rfl (mo_o hM) (fun v15 => ?_)
                  refine mf_bipush (v := 60) dX12_operand_218 (by decide) ?_
                  refine mf_icmp_lt (tgt := 232) dX12_operand_220 (by decide) ?_ ?_
                  · refine mf_aload_n 0 dX12_operand_232 rfl ?_
                    refine mf_iconst (v := 1) dX12_operand_233 rfl ?_
                    refine mf_cVi (rest := []) [.int 1] (aX12_bad (d + 1) q hM 1) mY_X12_bad dX12_operand_234 ml_X12_205 (mo_o hM) rfl rfl (Nat.le_of_ble_eq_true rfl) rfl (fun v16 => ?_)
                    exact mf_zreturn dX12_operand_237 rfl ⟨rfl, rfl⟩
                  · refine mf_aload_n 0 dX12_operand_223 rfl ?_
                    refine mf_geti 12 14 dX12_operand_224 fl_X12_189 (by decide) (by decide) rfl (mo_o hM) (fun v17 => ?_)
                    refine mf_bipush (v := 62) dX12_operand_227 (by decide) ?_
                    refine mf_icmp_le (tgt := 238) dX12_operand_229 (by decide) ?_ ?_
                    · refine mf_aload_n 0 dX12_operand_238 rfl ?_
                      refine mf_geti 12 14 dX12_operand_239 fl_X12_189 (by decide) (by decide) rfl (mo_o hM) (fun v18 => ?_)
                      refine mf_istore [(4, .int v18), (0, .ref 218), (1, .int v1), (2, .int v2), (3, .int v3)] dX12_operand_242 (Nat.le_of_ble_eq_true rfl) rfl ?_
                      refine mf_aload_n 1 dX12_operand_244 rfl ?_
                      refine mf_cVv (rest := []) [] (aX12_next (d + 0) q hM) mY_X12_next dX12_operand_245 ml_X12_208 (mo_o hM) rfl rfl (Nat.le_of_ble_eq_true rfl) rfl (fun _ => ?_)
                      refine mf_aload_n 1 dX12_operand_248 rfl ?_
                      refine mf_geti 12 11 dX12_operand_249 fl_X12_179 (by decide) (by decide) rfl (mo_o hM) (fun v19 => ?_)
                      refine mf_iconst (v := 2) dX12_operand_252 rfl ?_
                      refine mf_icmp_eq (tgt := 262) dX12_operand_253 (by decide) ?_ ?_
                      · refine mf_aload_n 1 dX12_operand_262 rfl ?_
                        refine mf_iload_n 4 dX12_operand_263 rfl ?_
                        refine mf_iload 0 dX12_operand_264 rfl ?_
                        refine mf_aload_n 1 dX12_operand_266 rfl ?_
                        refine mf_geti 12 14 dX12_operand_267 fl_X12_189 (by decide) (by decide) rfl (mo_o hM) (fun v20 => ?_)
                        refine mf_cVv (rest := []) [.int v3, .int v18, .int v20] (aX12_code (d + 1) q hM v3 v18 v20) mY_X12_code dX12_operand_270 ml_X12_498 (mo_o hM) rfl rfl (Nat.le_of_ble_eq_true rfl) rfl (fun _ => ?_)
                        refine mf_aload_n 1 dX12_operand_273 rfl ?_
                        refine mf_cVv (rest := []) [] (aX12_next (d + 0) q hM) mY_X12_next dX12_operand_274 ml_X12_208 (mo_o hM) rfl rfl (Nat.le_of_ble_eq_true rfl) rfl (fun _ => ?_)
                        refine mf_iconst (v := 1) dX12_operand_277 rfl ?_
                        exact mf_ireturn dX12_operand_278 rfl rfl ⟨rfl, rfl⟩
                      · refine mf_aload_n 1 dX12_operand_256 rfl ?_
                        refine mf_iconst (v := 1) dX12_operand_257 rfl ?_
                        refine mf_cVi (rest := []) [.int 1] (aX12_bad (d + 1) q hM 1) mY_X12_bad dX12_operand_258 ml_X12_205 (mo_o hM) rfl rfl (Nat.le_of_ble_eq_true rfl) rfl (fun v21 => ?_)
                        exact mf_zreturn dX12_operand_261 rfl ⟨rfl, rfl⟩
                    · refine mf_aload_n 0 dX12_operand_232 rfl ?_
                      refine mf_iconst (v := 1) dX12_operand_233 rfl ?_
                      refine mf_cVi (rest := []) [.int 1] (aX12_bad (d + 1) q hM 1) mY_X12_bad dX12_operand_234 ml_X12_205 (mo_o hM) rfl rfl (Nat.le_of_ble_eq_true rfl) rfl (fun v22 => ?_)
                      exact mf_zreturn dX12_operand_237 rfl ⟨rfl, rfl⟩
              · refine mf_iload_n 3 dX12_operand_150 rfl ?_
                refine mf_iconst (v := 3) dX12_operand_151 rfl ?_
                refine mf_jo1 (pj := 181) (lvj := fun w23 => [(0, .ref 218), (3, .int v3)]) (stj := fun w23 => [.int w23]) (fun w23 => ?_) (fun J181 hJ181 => ?_)
                · show MF rI (yX12_operand.cls, cX12_operand, 5, (some .boolean), yX12_operand.name, d + 3, 0, 0) 181 [(0, .ref 218), (3, .int v3)] [.int w23] q _
                  refine mf_istore [(4, .int w23), (0, .ref 218), (3, .int v3)] dX12_operand_181 (Nat.le_of_ble_eq_true rfl) rfl ?_
                  refine mf_iload 0 dX12_operand_183 rfl ?_
                  refine mf_if_ne (tgt := 190) dX12_operand_185 (by decide) ?_ ?_
                  · refine mf_aload_n 1 dX12_operand_190 rfl ?_
                    refine mf_iload_n 2 dX12_operand_191 rfl ?_
                    refine mf_iconst (v := 0) dX12_operand_192 rfl ?_
                    refine mf_aload_n 1 dX12_operand_193 rfl ?_
                    refine mf_geti 12 18 dX12_operand_194 fl_X12_215 (by decide) (by decide) rfl (mo_o hM) (fun v24 => ?_)
                    refine mf_cVv (rest := []) [.int v3, .int 0, .int v24] (aX12_code (d + 1) q hM v3 0 v24) mY_X12_code dX12_operand_197 ml_X12_498 (mo_o hM) rfl rfl (Nat.le_of_ble_eq_true rfl) rfl (fun _ => ?_)
                    refine mf_aload_n 1 dX12_operand_200 rfl ?_
                    refine mf_cVv (rest := []) [] (aX12_next (d + 0) q hM) mY_X12_next dX12_operand_201 ml_X12_208 (mo_o hM) rfl rfl (Nat.le_of_ble_eq_true rfl) rfl (fun _ => ?_)
                    refine mf_iconst (v := 1) dX12_operand_204 rfl ?_
                    exact mf_ireturn dX12_operand_205 rfl rfl ⟨rfl, rfl⟩
                  · refine mf_iconst (v := 0) dX12_operand_188 rfl ?_
                    exact mf_ireturn dX12_operand_189 rfl rfl ⟨rfl, rfl⟩
                refine mf_icmp_ne (tgt := 169) dX12_operand_152 (by decide) ?_ ?_
                · refine mf_aload_n 0 dX12_operand_169 rfl ?_
                  refine mf_bipush (v := 26) dX12_operand_170 (by decide) ?_
                  refine mf_aload_n 0 dX12_operand_172 rfl ?_
                  refine mf_getr 12 6 dX12_operand_173 fl_X12_33 (by decide) (by decide) rfl (mo_o hM) (mo_r6 hM) (by decide) ?_
                  refine mf_iconst (v := 4) dX12_operand_176 rfl ?_
                  refine mf_iald dX12_operand_177 (mo_a6 hM) (fun v25 => ?_)
                  refine mf_cVi (rest := []) [.int 26, .int v25] (aX12_looksAt (d + 0) q hM 26 v25) mY_X12_looksAt dX12_operand_178 ml_X12_230 (mo_o hM) rfl rfl (Nat.le_of_ble_eq_true rfl) rfl (fun v26 => ?_)
                  refine mf_sub [0, 3] rfl ?_
                  exact hJ181 _
                · refine mf_aload_n 0 dX12_operand_155 rfl ?_
                  refine mf_iconst (v := 0) dX12_operand_156 rfl ?_
                  refine mf_aload_n 0 dX12_operand_157 rfl ?_
                  refine mf_getr 12 6 dX12_operand_158 fl_X12_33 (by decide) (by decide) rfl (mo_o hM) (mo_r6 hM) (by decide) ?_
                  refine mf_iconst (v := 0) dX12_operand_161 rfl ?_
                  refine mf_iald dX12_operand_162 (mo_a6 hM) (fun v27 => ?_)
                  refine mf_cVi (rest := []) [.int 0, .int v27] (aX12_looksAt (d + 0) q hM 0 v27) mY_X12_looksAt dX12_operand_163 ml_X12_230 (mo_o hM) rfl rfl (Nat.le_of_ble_eq_true rfl) rfl (fun v28 => ?_)
                  refine mf_goto (tgt := 181) dX12_operand_166 (by decide) ?_
                  refine mf_sub [0, 3] rfl ?_
                  exact hJ181 _
            · refine mf_aload_n 0 dX12_operand_136 rfl ?_
              refine mf_iload_n 3 dX12_operand_137 rfl ?_
              refine mf_iconst (v := 0) dX12_operand_138 rfl ?_
              refine mf_iconst (v := 0) dX12_operand_139 rfl ?_
              refine mf_cVv (rest := []) [.int v3, .int 0, .int 0] (aX12_code (d + 1) q hM v3 0 0) mY_X12_code dX12_operand_140 ml_X12_498 (mo_o hM) rfl rfl (Nat.le_of_ble_eq_true rfl) rfl (fun _ => ?_)
              refine mf_iconst (v := 1) dX12_operand_143 rfl ?_
              exact mf_ireturn dX12_operand_144 rfl rfl ⟨rfl, rfl⟩
          · refine mf_aload_n 0 dX12_operand_84 rfl ?_
            refine mf_getr 12 41 dX12_operand_85 fl_X12_86 (by decide) (by decide) rfl (mo_o hM) (mo_r41 hM) (by decide) ?_
            refine mf_aload_n 0 dX12_operand_88 rfl ?_
            refine mf_geti 12 44 dX12_operand_89 fl_X12_495 (by decide) (by decide) rfl (mo_o hM) (fun v29 => ?_)
            refine mf_iload_n 1 dX12_operand_92 rfl ?_
            refine mf_jo2 (pj := 103) (lvj := fun w30 w31 => [(0, .ref 218)]) (stj := fun w30 w31 => [.int w30, .int w31, .ref 234]) (fun w30 w31 => ?_) (fun J103 hJ103 => ?_)
            · show MF rI (yX12_operand.cls, cX12_operand, 5, (some .boolean), yX12_operand.name, d + 3, 0, 0) 103 [(0, .ref 218)] [.int w30, .int w31, .ref 234] q _
              refine mf_iast dX12_operand_103 (mo_a41 hM) ?_
              refine mf_aload_n 0 dX12_operand_104 rfl ?_
              refine mf_dup dX12_operand_105 rfl ?_
              refine mf_geti 12 44 dX12_operand_106 fl_X12_495 (by decide) (by decide) rfl (mo_o hM) (fun v32 => ?_)
              refine mf_iconst (v := 1) dX12_operand_109 rfl ?_
              refine mf_iadd dX12_operand_110 ?_
              refine mf_puti 12 44 dX12_operand_111 fl_X12_495 (by decide) (by decide) rfl rfl (mo_o hM) ?_
              refine mf_aload_n 0 dX12_operand_114 rfl ?_
              refine mf_dup dX12_operand_115 rfl ?_
              refine mf_geti 12 45 dX12_operand_116 fl_X12_502 (by decide) (by decide) rfl (mo_o hM) (fun v33 => ?_)
              refine mf_iconst (v := 1) dX12_operand_119 rfl ?_
              refine mf_iadd dX12_operand_120 ?_
              refine mf_puti 12 45 dX12_operand_121 fl_X12_502 (by decide) (by decide) rfl rfl (mo_o hM) ?_
              refine mf_iconst (v := 1) dX12_operand_124 rfl ?_
              exact mf_ireturn dX12_operand_125 rfl rfl ⟨rfl, rfl⟩
            refine mf_if_eq (tgt := 101) dX12_operand_93 (by decide) ?_ ?_
            · refine mf_bipush (v := 23) dX12_operand_101 (by decide) ?_
              refine mf_sub [0] rfl ?_
              exact hJ103 _ _
            · refine mf_bipush (v := 20) dX12_operand_96 (by decide) ?_
              refine mf_goto (tgt := 103) dX12_operand_98 (by decide) ?_
              refine mf_sub [0] rfl ?_
              exact hJ103 _ _
      · refine mf_aload_n 0 dX12_operand_56 rfl ?_
        refine mf_iconst (v := 4) dX12_operand_57 rfl ?_
        refine mf_cVi (rest := []) [.int 4] (aX12_bad (d + 1) q hM 4) mY_X12_bad dX12_operand_58 ml_X12_205 (mo_o hM) rfl rfl (Nat.le_of_ble_eq_true rfl) rfl (fun v34 => ?_)
        exact mf_zreturn dX12_operand_61 rfl ⟨rfl, rfl⟩
  refine mf_if_ne (tgt := 38) dX12_operand_21 (by decide) ?_ ?_
  · refine mf_sub [3, 2, 1, 0] rfl ?_
    exact hJ38
  · refine mf_iload_n 1 dX12_operand_24 rfl ?_
    refine mf_if_ne (tgt := 38) dX12_operand_25 (by decide) ?_ ?_
    · refine mf_sub [3, 2, 1, 0] rfl ?_
      exact hJ38
    · refine mf_iload_n 0 dX12_operand_28 rfl ?_
      refine mf_if_ge (tgt := 38) dX12_operand_29 (by decide) ?_ ?_
      · refine mf_sub [3, 2, 1, 0] rfl ?_
        exact hJ38
      · refine mf_aload_n 3 dX12_operand_32 rfl ?_
        refine mf_iconst (v := 1) dX12_operand_33 rfl ?_
        refine mf_cVi (rest := []) [.int 1] (aX12_bad (d + 1) q hM 1) mY_X12_bad dX12_operand_34 ml_X12_205 (mo_o hM) rfl rfl (Nat.le_of_ble_eq_true rfl) rfl (fun v35 => ?_)
        exact mf_zreturn dX12_operand_37 rfl ⟨rfl, rfl⟩
set_option maxRecDepth 100000 in
set_option maxHeartbeats 4000000 in
theorem aX12_behind (d : Nat) (q : m_S) (hM : isM q)  : AC rI yX12_behind cX12_behind 1 (some .boolean) (d + 3) [.ref 218] q (fX12_behind ) := by
  refine ac_of (by decide +kernel) (Nat.le_of_ble_eq_true rfl) ?_
  unfold fX12_behind
  show MF rI (yX12_behind.cls, cX12_behind, 1, (some .boolean), yX12_behind.name, d + 3, 0, 0) 0 [(0, .ref 218)] [] q _
  refine mf_aload_n 0 dX12_behind_0 rfl ?_
  refine mf_cVv (rest := []) [] (aX12_nots (d + 0) q hM) mY_X12_nots dX12_behind_1 ml_X12_514 (mo_o hM) rfl rfl (Nat.le_of_ble_eq_true rfl) rfl (fun _ => ?_)
  refine mf_aload_n 0 dX12_behind_4 rfl ?_
  refine mf_ldc2 dX12_behind_5 cl_X12_146 ?_
  refine mf_cVi (rest := []) [.long 6385252] (aX12_isWord (d + 1) q hM 6385252) mY_X12_isWord dX12_behind_8 ml_X12_233 (mo_o hM) rfl rfl (Nat.le_of_ble_eq_true rfl) rfl (fun v1 => ?_)
  refine mf_if_ne (tgt := 24) dX12_behind_11 (by decide) ?_ ?_
  · refine mf_aload_n 0 dX12_behind_24 rfl ?_
    refine mf_aload_n 0 dX12_behind_25 rfl ?_
    refine mf_ldc2 dX12_behind_26 cl_X12_146 ?_
    refine mf_cVi (rest := [.ref 218]) [.long 6385252] (aX12_isWord (d + 1) q hM 6385252) mY_X12_isWord dX12_behind_29 ml_X12_233 (mo_o hM) rfl rfl (Nat.le_of_ble_eq_true rfl) rfl (fun v2 => ?_)
    refine mf_jo1 (pj := 42) (lvj := fun w3 => [(0, .ref 218)]) (stj := fun w3 => [.int w3, .ref 218]) (fun w3 => ?_) (fun J42 hJ42 => ?_)
    · show MF rI (yX12_behind.cls, cX12_behind, 1, (some .boolean), yX12_behind.name, d + 3, 0, 0) 42 [(0, .ref 218)] [.int w3, .ref 218] q _
      refine mf_cVv (rest := []) [.int w3] (aX12_joins (d + 0) q hM w3) mY_X12_joins dX12_behind_42 ml_X12_517 (mo_o hM) rfl rfl (Nat.le_of_ble_eq_true rfl) rfl (fun _ => ?_)
      refine mf_aload_n 0 dX12_behind_45 rfl ?_
      refine mf_getr 12 41 dX12_behind_46 fl_X12_86 (by decide) (by decide) rfl (mo_o hM) (mo_r41 hM) (by decide) ?_
      refine mf_aload_n 0 dX12_behind_49 rfl ?_
      refine mf_geti 12 44 dX12_behind_50 fl_X12_495 (by decide) (by decide) rfl (mo_o hM) (fun v4 => ?_)
      refine mf_aload_n 0 dX12_behind_53 rfl ?_
      refine mf_ldc2 dX12_behind_54 cl_X12_146 ?_
      refine mf_cVi (rest := [.int v4, .ref 234]) [.long 6385252] (aX12_isWord (d + 1) q hM 6385252) mY_X12_isWord dX12_behind_57 ml_X12_233 (mo_o hM) rfl rfl (Nat.le_of_ble_eq_true rfl) rfl (fun v5 => ?_)
      refine mf_if_eq (tgt := 68) dX12_behind_60 (by decide) ?_ ?_
      · refine mf_bipush (v := 22) dX12_behind_68 (by decide) ?_
        refine mf_iast dX12_behind_70 (mo_a41 hM) ?_
        refine mf_aload_n 0 dX12_behind_71 rfl ?_
        refine mf_dup dX12_behind_72 rfl ?_
        refine mf_geti 12 44 dX12_behind_73 fl_X12_495 (by decide) (by decide) rfl (mo_o hM) (fun v6 => ?_)
        refine mf_iconst (v := 1) dX12_behind_76 rfl ?_
        refine mf_iadd dX12_behind_77 ?_
        refine mf_puti 12 44 dX12_behind_78 fl_X12_495 (by decide) (by decide) rfl rfl (mo_o hM) ?_
        refine mf_aload_n 0 dX12_behind_81 rfl ?_
        refine mf_iconst (v := 0) dX12_behind_82 rfl ?_
        refine mf_putzc 12 46 dX12_behind_83 fl_X12_511 (by decide) (by decide) rfl rfl (mo_o hM) (by decide) ?_
        refine mf_aload_n 0 dX12_behind_86 rfl ?_
        refine mf_cVv (rest := []) [] (aX12_next (d + 0) q hM) mY_X12_next dX12_behind_87 ml_X12_208 (mo_o hM) rfl rfl (Nat.le_of_ble_eq_true rfl) rfl (fun _ => ?_)
        refine mf_iconst (v := 1) dX12_behind_90 rfl ?_
        exact mf_ireturn dX12_behind_91 rfl rfl ⟨rfl, rfl⟩
      · refine mf_bipush (v := 21) dX12_behind_63 (by decide) ?_
        refine mf_goto (tgt := 70) dX12_behind_65 (by decide) ?_
        refine mf_iast dX12_behind_70 (mo_a41 hM) ?_
        refine mf_aload_n 0 dX12_behind_71 rfl ?_
        refine mf_dup dX12_behind_72 rfl ?_
        refine mf_geti 12 44 dX12_behind_73 fl_X12_495 (by decide) (by decide) rfl (mo_o hM) (fun v7 => ?_)
        refine mf_iconst (v := 1) dX12_behind_76 rfl ?_
        refine mf_iadd dX12_behind_77 ?_
        refine mf_puti 12 44 dX12_behind_78 fl_X12_495 (by decide) (by decide) rfl rfl (mo_o hM) ?_
        refine mf_aload_n 0 dX12_behind_81 rfl ?_
        refine mf_iconst (v := 0) dX12_behind_82 rfl ?_
        refine mf_putzc 12 46 dX12_behind_83 fl_X12_511 (by decide) (by decide) rfl rfl (mo_o hM) (by decide) ?_
        refine mf_aload_n 0 dX12_behind_86 rfl ?_
        refine mf_cVv (rest := []) [] (aX12_next (d + 0) q hM) mY_X12_next dX12_behind_87 ml_X12_208 (mo_o hM) rfl rfl (Nat.le_of_ble_eq_true rfl) rfl (fun _ => ?_)
        refine mf_iconst (v := 1) dX12_behind_90 rfl ?_
        exact mf_ireturn dX12_behind_91 rfl rfl ⟨rfl, rfl⟩
    refine mf_if_eq (tgt := 40) dX12_behind_32 (by decide) ?_ ?_
    · refine mf_bipush (v := 22) dX12_behind_40 (by decide) ?_
      exact hJ42 _
    · refine mf_bipush (v := 21) dX12_behind_35 (by decide) ?_
      refine mf_goto (tgt := 42) dX12_behind_37 (by decide) ?_
      exact hJ42 _
  · refine mf_aload_n 0 dX12_behind_14 rfl ?_
    refine mf_ldc2 dX12_behind_15 cl_X12_144 ?_
    refine mf_cVi (rest := []) [.long 28530] (aX12_isWord (d + 1) q hM 28530) mY_X12_isWord dX12_behind_18 ml_X12_233 (mo_o hM) rfl rfl (Nat.le_of_ble_eq_true rfl) rfl (fun v8 => ?_)
    refine mf_if_eq (tgt := 92) dX12_behind_21 (by decide) ?_ ?_
    · refine mf_aload_n 0 dX12_behind_92 rfl ?_
      refine mf_bipush (v := 22) dX12_behind_93 (by decide) ?_
      refine mf_cVv (rest := []) [.int 22] (aX12_joins (d + 0) q hM 22) mY_X12_joins dX12_behind_95 ml_X12_517 (mo_o hM) rfl rfl (Nat.le_of_ble_eq_true rfl) rfl (fun _ => ?_)
      refine mf_aload_n 0 dX12_behind_98 rfl ?_
      refine mf_bipush (v := 41) dX12_behind_99 (by decide) ?_
      refine mf_cVi (rest := []) [.int 41] (aX12_isSign (d + 1) q hM 41) mY_X12_isSign dX12_behind_101 ml_X12_202 (mo_o hM) rfl rfl (Nat.le_of_ble_eq_true rfl) rfl (fun v9 => ?_)
      refine mf_if_eq (tgt := 114) dX12_behind_104 (by decide) ?_ ?_
      · refine mf_aload_n 0 dX12_behind_114 rfl ?_
        refine mf_iconst (v := 1) dX12_behind_115 rfl ?_
        refine mf_cVi (rest := []) [.int 1] (aX12_bad (d + 1) q hM 1) mY_X12_bad dX12_behind_116 ml_X12_205 (mo_o hM) rfl rfl (Nat.le_of_ble_eq_true rfl) rfl (fun v10 => ?_)
        exact mf_zreturn dX12_behind_119 rfl ⟨rfl, rfl⟩
      · refine mf_aload_n 0 dX12_behind_107 rfl ?_
        refine mf_geti 12 44 dX12_behind_108 fl_X12_495 (by decide) (by decide) rfl (mo_o hM) (fun v11 => ?_)
        refine mf_if_ne (tgt := 120) dX12_behind_111 (by decide) ?_ ?_
        · refine mf_aload_n 0 dX12_behind_120 rfl ?_
          refine mf_dup dX12_behind_121 rfl ?_
          refine mf_geti 12 44 dX12_behind_122 fl_X12_495 (by decide) (by decide) rfl (mo_o hM) (fun v12 => ?_)
          refine mf_iconst (v := 1) dX12_behind_125 rfl ?_
          refine mf_isub dX12_behind_126 ?_
          refine mf_puti 12 44 dX12_behind_127 fl_X12_495 (by decide) (by decide) rfl rfl (mo_o hM) ?_
          refine mf_aload_n 0 dX12_behind_130 rfl ?_
          refine mf_dup dX12_behind_131 rfl ?_
          refine mf_geti 12 45 dX12_behind_132 fl_X12_502 (by decide) (by decide) rfl (mo_o hM) (fun v13 => ?_)
          refine mf_iconst (v := 1) dX12_behind_135 rfl ?_
          refine mf_isub dX12_behind_136 ?_
          refine mf_puti 12 45 dX12_behind_137 fl_X12_502 (by decide) (by decide) rfl rfl (mo_o hM) ?_
          refine mf_aload_n 0 dX12_behind_140 rfl ?_
          refine mf_cVv (rest := []) [] (aX12_next (d + 0) q hM) mY_X12_next dX12_behind_141 ml_X12_208 (mo_o hM) rfl rfl (Nat.le_of_ble_eq_true rfl) rfl (fun _ => ?_)
          refine mf_iconst (v := 1) dX12_behind_144 rfl ?_
          exact mf_ireturn dX12_behind_145 rfl rfl ⟨rfl, rfl⟩
        · refine mf_aload_n 0 dX12_behind_114 rfl ?_
          refine mf_iconst (v := 1) dX12_behind_115 rfl ?_
          refine mf_cVi (rest := []) [.int 1] (aX12_bad (d + 1) q hM 1) mY_X12_bad dX12_behind_116 ml_X12_205 (mo_o hM) rfl rfl (Nat.le_of_ble_eq_true rfl) rfl (fun v14 => ?_)
          exact mf_zreturn dX12_behind_119 rfl ⟨rfl, rfl⟩
    · refine mf_aload_n 0 dX12_behind_24 rfl ?_
      refine mf_aload_n 0 dX12_behind_25 rfl ?_
      refine mf_ldc2 dX12_behind_26 cl_X12_146 ?_
      refine mf_cVi (rest := [.ref 218]) [.long 6385252] (aX12_isWord (d + 1) q hM 6385252) mY_X12_isWord dX12_behind_29 ml_X12_233 (mo_o hM) rfl rfl (Nat.le_of_ble_eq_true rfl) rfl (fun v15 => ?_)
      refine mf_jo1 (pj := 42) (lvj := fun w16 => [(0, .ref 218)]) (stj := fun w16 => [.int w16, .ref 218]) (fun w16 => ?_) (fun J42 hJ42 => ?_)
      · show MF rI (yX12_behind.cls, cX12_behind, 1, (some .boolean), yX12_behind.name, d + 3, 0, 0) 42 [(0, .ref 218)] [.int w16, .ref 218] q _
        refine mf_cVv (rest := []) [.int w16] (aX12_joins (d + 0) q hM w16) mY_X12_joins dX12_behind_42 ml_X12_517 (mo_o hM) rfl rfl (Nat.le_of_ble_eq_true rfl) rfl (fun _ => ?_)
        refine mf_aload_n 0 dX12_behind_45 rfl ?_
        refine mf_getr 12 41 dX12_behind_46 fl_X12_86 (by decide) (by decide) rfl (mo_o hM) (mo_r41 hM) (by decide) ?_
        refine mf_aload_n 0 dX12_behind_49 rfl ?_
        refine mf_geti 12 44 dX12_behind_50 fl_X12_495 (by decide) (by decide) rfl (mo_o hM) (fun v17 => ?_)
        refine mf_aload_n 0 dX12_behind_53 rfl ?_
        refine mf_ldc2 dX12_behind_54 cl_X12_146 ?_
        refine mf_cVi (rest := [.int v17, .ref 234]) [.long 6385252] (aX12_isWord (d + 1) q hM 6385252) mY_X12_isWord dX12_behind_57 ml_X12_233 (mo_o hM) rfl rfl (Nat.le_of_ble_eq_true rfl) rfl (fun v18 => ?_)
        refine mf_if_eq (tgt := 68) dX12_behind_60 (by decide) ?_ ?_
        · refine mf_bipush (v := 22) dX12_behind_68 (by decide) ?_
          refine mf_iast dX12_behind_70 (mo_a41 hM) ?_
          refine mf_aload_n 0 dX12_behind_71 rfl ?_
          refine mf_dup dX12_behind_72 rfl ?_
          refine mf_geti 12 44 dX12_behind_73 fl_X12_495 (by decide) (by decide) rfl (mo_o hM) (fun v19 => ?_)
          refine mf_iconst (v := 1) dX12_behind_76 rfl ?_
          refine mf_iadd dX12_behind_77 ?_
          refine mf_puti 12 44 dX12_behind_78 fl_X12_495 (by decide) (by decide) rfl rfl (mo_o hM) ?_
          refine mf_aload_n 0 dX12_behind_81 rfl ?_
          refine mf_iconst (v := 0) dX12_behind_82 rfl ?_
          refine mf_putzc 12 46 dX12_behind_83 fl_X12_511 (by decide) (by decide) rfl rfl (mo_o hM) (by decide) ?_
          refine mf_aload_n 0 dX12_behind_86 rfl ?_
          refine mf_cVv (rest := []) [] (aX12_next (d + 0) q hM) mY_X12_next dX12_behind_87 ml_X12_208 (mo_o hM) rfl rfl (Nat.le_of_ble_eq_true rfl) rfl (fun _ => ?_)
          refine mf_iconst (v := 1) dX12_behind_90 rfl ?_
          exact mf_ireturn dX12_behind_91 rfl rfl ⟨rfl, rfl⟩
        · refine mf_bipush (v := 21) dX12_behind_63 (by decide) ?_
          refine mf_goto (tgt := 70) dX12_behind_65 (by decide) ?_
          refine mf_iast dX12_behind_70 (mo_a41 hM) ?_
          refine mf_aload_n 0 dX12_behind_71 rfl ?_
          refine mf_dup dX12_behind_72 rfl ?_
          refine mf_geti 12 44 dX12_behind_73 fl_X12_495 (by decide) (by decide) rfl (mo_o hM) (fun v20 => ?_)
          refine mf_iconst (v := 1) dX12_behind_76 rfl ?_
          refine mf_iadd dX12_behind_77 ?_
          refine mf_puti 12 44 dX12_behind_78 fl_X12_495 (by decide) (by decide) rfl rfl (mo_o hM) ?_
          refine mf_aload_n 0 dX12_behind_81 rfl ?_
          refine mf_iconst (v := 0) dX12_behind_82 rfl ?_
          refine mf_putzc 12 46 dX12_behind_83 fl_X12_511 (by decide) (by decide) rfl rfl (mo_o hM) (by decide) ?_
          refine mf_aload_n 0 dX12_behind_86 rfl ?_
          refine mf_cVv (rest := []) [] (aX12_next (d + 0) q hM) mY_X12_next dX12_behind_87 ml_X12_208 (mo_o hM) rfl rfl (Nat.le_of_ble_eq_true rfl) rfl (fun _ => ?_)
          refine mf_iconst (v := 1) dX12_behind_90 rfl ?_
          exact mf_ireturn dX12_behind_91 rfl rfl ⟨rfl, rfl⟩
      refine mf_if_eq (tgt := 40) dX12_behind_32 (by decide) ?_ ?_
      · refine mf_bipush (v := 22) dX12_behind_40 (by decide) ?_
        exact hJ42 _
      · refine mf_bipush (v := 21) dX12_behind_35 (by decide) ?_
        refine mf_goto (tgt := 42) dX12_behind_37 (by decide) ?_
        exact hJ42 _
set_option maxRecDepth 100000 in
set_option maxHeartbeats 4000000 in
theorem aX12_sentence (d : Nat) (q : m_S) (hM : isM q)  : AC rI yX12_sentence cX12_sentence 3 (some .int) (d + 4) [.ref 218] q (fX12_sentence ) := by
  refine ac_of (by decide +kernel) (Nat.le_of_ble_eq_true rfl) ?_
  unfold fX12_sentence
  show MF rI (yX12_sentence.cls, cX12_sentence, 3, (some .int), yX12_sentence.name, d + 4, 0, 0) 0 [(0, .ref 218)] [] q _
  refine mf_aload_n 0 dX12_sentence_0 rfl ?_
  refine mf_iconst (v := 0) dX12_sentence_1 rfl ?_
  refine mf_puti 12 0 dX12_sentence_2 fl_X12_1 (by decide) (by decide) rfl rfl (mo_o hM) ?_
  refine mf_aload_n 0 dX12_sentence_5 rfl ?_
  refine mf_sipush (v := 200) dX12_sentence_6 (by decide) ?_
  refine mf_cVv (rest := []) [.int 200] (aX12_taken (d + 2) q hM 200) mY_X12_taken dX12_sentence_9 ml_X12_283 (mo_o hM) rfl rfl (Nat.le_of_ble_eq_true rfl) rfl (fun _ => ?_)
  refine mf_aload_n 0 dX12_sentence_12 rfl ?_
  refine mf_iconst (v := 0) dX12_sentence_13 rfl ?_
  refine mf_puti 12 15 dX12_sentence_14 fl_X12_196 (by decide) (by decide) rfl rfl (mo_o hM) ?_
  refine mf_aload_n 0 dX12_sentence_17 rfl ?_
  refine mf_iconst (v := 0) dX12_sentence_18 rfl ?_
  refine mf_puti 12 42 dX12_sentence_19 fl_X12_492 (by decide) (by decide) rfl rfl (mo_o hM) ?_
  refine mf_aload_n 0 dX12_sentence_22 rfl ?_
  refine mf_iconst (v := 0) dX12_sentence_23 rfl ?_
  refine mf_puti 12 43 dX12_sentence_24 fl_X12_508 (by decide) (by decide) rfl rfl (mo_o hM) ?_
  refine mf_aload_n 0 dX12_sentence_27 rfl ?_
  refine mf_iconst (v := 0) dX12_sentence_28 rfl ?_
  refine mf_puti 12 44 dX12_sentence_29 fl_X12_495 (by decide) (by decide) rfl rfl (mo_o hM) ?_
  refine mf_aload_n 0 dX12_sentence_32 rfl ?_
  refine mf_iconst (v := 1) dX12_sentence_33 rfl ?_
  refine mf_puti 12 45 dX12_sentence_34 fl_X12_502 (by decide) (by decide) rfl rfl (mo_o hM) ?_
  refine mf_aload_n 0 dX12_sentence_37 rfl ?_
  refine mf_iconst (v := 0) dX12_sentence_38 rfl ?_
  refine mf_putzc 12 46 dX12_sentence_39 fl_X12_511 (by decide) (by decide) rfl rfl (mo_o hM) (by decide) ?_
  refine mf_aload_n 0 dX12_sentence_42 rfl ?_
  refine mf_cVv (rest := []) [] (aX12_next (d + 1) q hM) mY_X12_next dX12_sentence_43 ml_X12_208 (mo_o hM) rfl rfl (Nat.le_of_ble_eq_true rfl) rfl (fun _ => ?_)
  refine mf_iconst (v := 1) dX12_sentence_46 rfl ?_
  refine mf_istore_n [(1, .int 1), (0, .ref 218)] dX12_sentence_47 (Nat.le_of_ble_eq_true rfl) rfl ?_
  refine mf_sub [1, 0] rfl ?_
  refine mf_lz1 (lv := fun x1 => [(0, .ref 218), (1, .int x1)]) (fun L48 h48 x1 => ?_) _ _
  show MF rI (yX12_sentence.cls, cX12_sentence, 3, (some .int), yX12_sentence.name, d + 4, 0, 0) 48 [(0, .ref 218), (1, .int x1)] [] q _
  refine mf_iload_n 1 dX12_sentence_48 rfl ?_
  refine mf_if_eq (tgt := 132) dX12_sentence_49 (by decide) ?_ ?_
  · refine mf_aload_n 0 dX12_sentence_132 rfl ?_
    refine mf_getr 12 6 dX12_sentence_133 fl_X12_33 (by decide) (by decide) rfl (mo_o hM) (mo_r6 hM) (by decide) ?_
    refine mf_sipush (v := 288) dX12_sentence_136 (by decide) ?_
    refine mf_aload_n 0 dX12_sentence_139 rfl ?_
    refine mf_geti 12 42 dX12_sentence_140 fl_X12_492 (by decide) (by decide) rfl (mo_o hM) (fun v2 => ?_)
    refine mf_iast dX12_sentence_143 (mo_a6 hM) ?_
    refine mf_iconst (v := 0) dX12_sentence_144 rfl ?_
    refine mf_istore_n [(2, .int 0), (0, .ref 218), (1, .int x1)] dX12_sentence_145 (Nat.le_of_ble_eq_true rfl) rfl ?_
    refine mf_sub [1, 0] rfl ?_
    refine mf_lz1 (lv := fun x3 => [(0, .ref 218), (2, .int x3)]) (fun L146 h146 x3 => ?_) _ _
    show MF rI (yX12_sentence.cls, cX12_sentence, 3, (some .int), yX12_sentence.name, d + 4, 0, 0) 146 [(0, .ref 218), (2, .int x3)] [] q _
    refine mf_iload_n 1 dX12_sentence_146 rfl ?_
    refine mf_iconst (v := 3) dX12_sentence_147 rfl ?_
    refine mf_aload_n 0 dX12_sentence_148 rfl ?_
    refine mf_geti 12 42 dX12_sentence_149 fl_X12_492 (by decide) (by decide) rfl (mo_o hM) (fun v4 => ?_)
    refine mf_imul dX12_sentence_152 ?_
    refine mf_icmp_ge (tgt := 178) dX12_sentence_153 (by decide) ?_ ?_
    · refine mf_aload_n 0 dX12_sentence_178 rfl ?_
      refine mf_geti 12 43 dX12_sentence_179 fl_X12_508 (by decide) (by decide) rfl (mo_o hM) (fun v5 => ?_)
      exact mf_ireturn dX12_sentence_182 rfl rfl ⟨rfl, rfl⟩
    · refine mf_aload_n 0 dX12_sentence_156 rfl ?_
      refine mf_getr 12 6 dX12_sentence_157 fl_X12_33 (by decide) (by decide) rfl (mo_o hM) (mo_r6 hM) (by decide) ?_
      refine mf_sipush (v := 289) dX12_sentence_160 (by decide) ?_
      refine mf_iload_n 1 dX12_sentence_163 rfl ?_
      refine mf_iadd dX12_sentence_164 ?_
      refine mf_aload_n 0 dX12_sentence_165 rfl ?_
      refine mf_getr 12 8 dX12_sentence_166 fl_X12_40 (by decide) (by decide) rfl (mo_o hM) (mo_r8 hM) (by decide) ?_
      refine mf_iload_n 1 dX12_sentence_169 rfl ?_
      refine mf_iald dX12_sentence_170 (mo_a8 hM) (fun v6 => ?_)
      refine mf_iast dX12_sentence_171 (mo_a6 hM) ?_
      refine mf_iinc 1 (x3 + 1) [(2, .int (x3 + 1)), (0, .ref 218)] dX12_sentence_172 rfl rfl (Nat.le_of_ble_eq_true rfl) rfl ?_
      refine mf_goto (tgt := 146) dX12_sentence_175 (by decide) ?_
      refine mf_sub [1, 0] rfl ?_
      exact h146 _
  · refine mf_aload_n 0 dX12_sentence_52 rfl ?_
    refine mf_geti 12 46 dX12_sentence_53 fl_X12_511 (by decide) (by decide) rfl (mo_o hM) (fun v7 => ?_)
    refine mf_jo0 (pj := 101) (lvj := [(0, .ref 218), (1, .int x1)]) (stj := []) ?_ (fun J101 hJ101 => ?_)
    · show MF rI (yX12_sentence.cls, cX12_sentence, 3, (some .int), yX12_sentence.name, d + 4, 0, 0) 101 [(0, .ref 218), (1, .int x1)] [] q _
      refine mf_aload_n 0 dX12_sentence_101 rfl ?_
      refine mf_geti 12 46 dX12_sentence_102 fl_X12_511 (by decide) (by decide) rfl (mo_o hM) (fun v8 => ?_)
      refine mf_if_eq (tgt := 118) dX12_sentence_105 (by decide) ?_ ?_
      · refine mf_aload_n 0 dX12_sentence_118 rfl ?_
        refine mf_cVi (rest := []) [] (aX12_operand (d + 0) q hM) mY_X12_operand dX12_sentence_119 ml_X12_523 (mo_o hM) rfl rfl (Nat.le_of_ble_eq_true rfl) rfl (fun v9 => ?_)
        refine mf_if_ne (tgt := 48) dX12_sentence_122 (by decide) ?_ ?_
        · exact h48 _
        · refine mf_iconst (v := -1) dX12_sentence_125 rfl ?_
          refine mf_aload_n 0 dX12_sentence_126 rfl ?_
          refine mf_geti 12 16 dX12_sentence_127 fl_X12_199 (by decide) (by decide) rfl (mo_o hM) (fun v10 => ?_)
          refine mf_isub dX12_sentence_130 ?_
          exact mf_ireturn dX12_sentence_131 rfl rfl ⟨rfl, rfl⟩
      · refine mf_aload_n 0 dX12_sentence_108 rfl ?_
        refine mf_cVi (rest := []) [] (aX12_behind (d + 0) q hM) mY_X12_behind dX12_sentence_109 ml_X12_520 (mo_o hM) rfl rfl (Nat.le_of_ble_eq_true rfl) rfl (fun v11 => ?_)
        refine mf_if_ne (tgt := 48) dX12_sentence_112 (by decide) ?_ ?_
        · exact h48 _
        · refine mf_goto (tgt := 125) dX12_sentence_115 (by decide) ?_
          refine mf_iconst (v := -1) dX12_sentence_125 rfl ?_
          refine mf_aload_n 0 dX12_sentence_126 rfl ?_
          refine mf_geti 12 16 dX12_sentence_127 fl_X12_199 (by decide) (by decide) rfl (mo_o hM) (fun v12 => ?_)
          refine mf_isub dX12_sentence_130 ?_
          exact mf_ireturn dX12_sentence_131 rfl rfl ⟨rfl, rfl⟩
    refine mf_if_eq (tgt := 101) dX12_sentence_56 (by decide) ?_ ?_
    · exact hJ101
    · refine mf_aload_n 0 dX12_sentence_59 rfl ?_
      refine mf_geti 12 11 dX12_sentence_60 fl_X12_179 (by decide) (by decide) rfl (mo_o hM) (fun v13 => ?_)
      refine mf_if_ne (tgt := 101) dX12_sentence_63 (by decide) ?_ ?_
      · exact hJ101
      · refine mf_aload_n 0 dX12_sentence_66 rfl ?_
        refine mf_cVv (rest := []) [] (aX12_nots (d + 1) q hM) mY_X12_nots dX12_sentence_67 ml_X12_514 (mo_o hM) rfl rfl (Nat.le_of_ble_eq_true rfl) rfl (fun _ => ?_)
        refine mf_aload_n 0 dX12_sentence_70 rfl ?_
        refine mf_bipush (v := 22) dX12_sentence_71 (by decide) ?_
        refine mf_cVv (rest := []) [.int 22] (aX12_joins (d + 1) q hM 22) mY_X12_joins dX12_sentence_73 ml_X12_517 (mo_o hM) rfl rfl (Nat.le_of_ble_eq_true rfl) rfl (fun _ => ?_)
        refine mf_aload_n 0 dX12_sentence_76 rfl ?_
        refine mf_geti 12 44 dX12_sentence_77 fl_X12_495 (by decide) (by decide) rfl (mo_o hM) (fun v14 => ?_)
        refine mf_if_le (tgt := 96) dX12_sentence_80 (by decide) ?_ ?_
        · refine mf_iconst (v := 0) dX12_sentence_96 rfl ?_
          refine mf_istore_n [(1, .int 0), (0, .ref 218)] dX12_sentence_97 (Nat.le_of_ble_eq_true rfl) rfl ?_
          refine mf_goto (tgt := 48) dX12_sentence_98 (by decide) ?_
          refine mf_sub [1, 0] rfl ?_
          exact h48 _
        · refine mf_aload_n 0 dX12_sentence_83 rfl ?_
          refine mf_iconst (v := 1) dX12_sentence_84 rfl ?_
          refine mf_cVi (rest := []) [.int 1] (aX12_bad (d + 2) q hM 1) mY_X12_bad dX12_sentence_85 ml_X12_205 (mo_o hM) rfl rfl (Nat.le_of_ble_eq_true rfl) rfl (fun v15 => ?_)
          refine mf_pop dX12_sentence_88 rfl ?_
          refine mf_iconst (v := -1) dX12_sentence_89 rfl ?_
          refine mf_aload_n 0 dX12_sentence_90 rfl ?_
          refine mf_geti 12 16 dX12_sentence_91 fl_X12_199 (by decide) (by decide) rfl (mo_o hM) (fun v16 => ?_)
          refine mf_isub dX12_sentence_94 ?_
          exact mf_ireturn dX12_sentence_95 rfl rfl ⟨rfl, rfl⟩
