/-! the law's helpers, which catch -/
def m_QX (G : m_G) (Q : Option Value → m_H → Prop) : Array Value → State → Outcome → State → Prop := fun _ st oc t => (∃ (r : Option Value) (h' : m_H), Q r h' ∧ oc = .returned (r.map (m_v G)) ∧ m_In G h' t.heap) ∧ va_F (m_A G) st t
def hMet (l : Launch) (y : MethodName) (cc : ByteArray) (nL : Nat) (hh : List (Nat × Nat × Nat × Nat)) (d : Nat) (args : List Value) (h : m_H) (Q : Option Value → m_H → Prop) (G : m_G) : Prop :=
  Met l y (Cond.codeWith y cc nL (some .int) hh :: m_tb) (m_R d 1 6) (m_PcX G args h) (m_QX G Q) 1 6 (m_A G)
theorem hm_of {y : MethodName} {cc : ByteArray} {nL : Nat} {hh : List (Nat × Nat × Nat × Nat)} {d : Nat} {args : List Value} {h : m_H} {Q : Option Value → m_H → Prop} {l : Launch} {G : m_G} (hy : plainName y.cls = true) (hn : (lg_sl args).length ≤ nL)
    (k : ∀ g : g_C, gC (y.cls, cc, nL, some .int, y.name, d, 1, 6) g → g_l g = l → g_R g = m_R d 1 6 → g_G g = G → xKK G (g_s g) → (g_c g).exceptionTable.toList = tableOf hh → g_Z g = MQ (g_b g) (m_QX G Q) (g_a g) (g_s g) 1 6 (m_A G) → GW (y.cls, cc, nL, some .int, y.name, d, 1, 6) g 0 (0, 0) (lv_args 0 args) [] h) : hMet l y cc nL hh d args h Q G := by
  refine va_MetW (cc := cc) (maxL := nL) (ret := some .int) (hh := hh) hy rfl ?_
  intro p e s m as below meth c s₁ B hml hv
  obtain ⟨rfl, hIn, hK, hge, hx⟩ := hv
  have hts := atoms_spec (ws := Cond.codeWith y cc nL (some .int) hh :: m_tb) B.pre
  have htb : c.exceptionTable.toList = tableOf hh := vx_table (x := y) B (hts _ List.mem_cons_self)
  have hl := lv_entry (args.map (m_v G)) (n := nL) (by rw [m_sl]; exact hn)
  rw [lg_entry_eq]
  generalize (lg_sl (args.map (m_v G)) ++ List.replicate (nL - (lg_sl (args.map (m_v G))).length) Slot.unset).toArray = ls at hl ⊢
  rw [m_lv_args] at hl
  exact k (p, l, e, m_R d 1 6, s, m, _, below, meth, c, G, MQ below (m_QX G Q) _ s 1 6 (m_A G)) ⟨B.exec, B.bytes, hml, findClass_of_methodNamed B.named, fun w hw => hts w (List.mem_cons_of_mem _ hw), hK, B.returns, B.notSynchronized, (name_of_methodNamed B.named B.method).1, hge⟩ rfl rfl rfl hx htb rfl s.heap [] ls hIn va_S.rf hl
section GH
variable {K : m_K} {g : g_C} {pc : Nat} {z : Nat × Nat} {lv : List (Nat × Value)} {rest : List Value} {h : m_H} {G : m_G} {Q : Option Value → m_H → Prop}
theorem gh_W (hC : gC K g) (hG : g_G g = G) (hZ : g_Z g = MQ (g_b g) (m_QX G Q) (g_a g) (g_s g) 1 6 (m_A G)) (hr : K.2.2.2.1 = some .int) {x : Int32} (hd : decode K.2.1 pc = .ok (.ireturn, 1)) (hz : z.1 ≤ 1 ∧ z.2 ≤ 6) (hq : Q (some (.int x)) h) {H : Heap} {locs : List Loc} {ls : Array Slot} (hI : m_In (g_G g) h H) (hS : va_S (m_A (g_G g)) (g_s g).heap H locs) :
    W (g_p g) (g_l g) (g_e g) (g_R g) (g_s g) (g_m g) (g_a g) (g_b g) (g_k g) (g_c g) H locs z.1 z.2 (g_Z g) (F0 (g_m g) pc ls [.int x]) := by
  subst hG
  refine W.widen (k := 1) (n := 6) hz.1 hz.2 ?_
  rw [hZ]
  exact W.zret hC.1 hC.2.1 (hC.2.2.2.2.2.2.1.trans hr) rfl (fun t ht _ => ⟨⟨some (.int x), h, hq, rfl, by rw [ht]; exact hI⟩, hS.F ht⟩) hS.2.2 hd hC.2.2.2.2.2.2.2.1
theorem gh_ret (hC : gC K g) (hG : g_G g = G) (hZ : g_Z g = MQ (g_b g) (m_QX G Q) (g_a g) (g_s g) 1 6 (m_A G)) (hr : K.2.2.2.1 = some .int) {x : Int32} (hd : decode K.2.1 pc = .ok (.ireturn, 1)) (hz : z.1 ≤ 1 ∧ z.2 ≤ 6) (hq : Q (some (.int x)) h) : GW K g pc z lv [.int x] h := fun H locs ls hI hS hlv => gh_W hC hG hZ hr hd hz hq hI hS
variable {y : MethodName} {cc : ByteArray} {nL : Nat} {ret : Option FieldType} {n ci d : Nat} {idx : Nat} {As : List Value} {b : Nat}
/-- a call that surely throws -/
theorem gx_call (hC : gC K g) (hG : g_G g = G) (hM : vx_Met (g_l g) y (Cond.code y cc nL ret :: m_tb) (m_R d 1 6) (m_PcX G (.ref b :: As) h) (fun _ _ _ _ => False) (xX G h) 1 6 (m_A G)) (hy : m_YV y cc nL ret n ci) (hd : decode K.2.1 pc = .ok (.invokevirtual idx, 3)) (hl : Cond.methodLink K.1 idx y ∈ m_tb) (hb : m_O h b ci) (hroom : d + 1 ≤ (g_R g).frames ∧ 8 + (nL + 11) + 100 * d ≤ (g_R g).locals) (hnA : As.length = n) (hw : (rest.map fun v => v.category).sum ≤ 8) (hx : xKK G (g_s g)) (hc : z.1 + 1 ≤ (g_R g).cells ∧ z.2 + 6 ≤ (g_R g).slots)
    {st : List Value} (hst1 : st = As.reverse ++ .ref b :: rest) (kx : ∀ (H1 : Heap) (locs1 : List Loc) (ls : Array Slot) (q9 : Addr) (ce : Cell), m_In (g_G g) h H1 → va_S (m_A (g_G g)) (g_s g).heap H1 locs1 → lv_has ls K.2.2.1 (m_lv (g_G g) lv) → H1[q9]? = some ce → ce.vm = .none → (g_s g).vm.findClass nsE = some ce.cls → vx_W (g_p g) (g_l g) (g_e g) (g_R g) (g_s g) (g_m g) (g_a g) (g_b g) (g_k g) (g_c g) H1 locs1 (z.1 + 1) (z.2 + 6) (g_Z g) (F0 (g_m g) pc ls (m_st (g_G g) rest)) q9) : GW K g pc z lv st h := by
  subst hst1
  subst hG
  intro H locs ls hI hS hlv
  have hst : m_st (g_G g) (As.reverse ++ .ref b :: rest) = (As.map (m_v (g_G g))).reverse ++ .ref ((g_G g).1 + b) :: m_st (g_G g) rest := by simp [m_st, m_v, m_ad_at (g_G g) hb.1 hI.2]
  rw [hst]
  have hcw : (m_st (g_G g) rest).map (fun v => v.category) = rest.map (fun v => v.category) := by simp [m_st, Function.comp_def, m_cat]
  have hargs : (Value.ref ((g_G g).1 + b) :: As.map (m_v (g_G g))) = ((Value.ref b :: As).map (m_v (g_G g))) := by simp [m_v, m_ad_at (g_G g) hb.1 hI.2]
  have hrecv : ∃ cell, H[(g_G g).1 + b]? = some cell ∧ cell.vm.isStatics = false ∧ (g_s g).vm.findClass y.cls = some cell.cls := by
    rw [hy.2.2.2.1]
    exact va_recv hC.2.2.2.2.2.1.1 hI.1 (m_cl hy.2.2.2.2) (q0 := b) ((m_ws_at (g_G g) h hb.1).trans (by rw [m_E_o hb hy.2.2.2.2]))
  have hpre : ∀ U : State, U.heap = H → (g_s g).WarmedH U.vm → m_PcX (g_G g) (.ref b :: As) h (Value.ref ((g_G g).1 + b) :: As.map (m_v (g_G g))).toArray U := by
    rw [hargs]
    exact x_pre hC.2.2.2.2.2.1 hx hI hS hC.2.2.2.2.2.2.2.2.2
  have hr := vx_runV (C := y.cls) (n := n) (As := As.map (m_v (g_G g))) (b := (g_G g).1 + b) (rest := m_st (g_G g) rest) (H := H) (locs := locs) (cells := z.1) (slots := z.2) (below := g_b g) (meth := g_k g) (e := g_e g) (g := F0 (g_m g) pc ls ((As.map (m_v (g_G g))).reverse ++ .ref ((g_G g).1 + b) :: m_st (g_G g) rest)) (R := g_R g) ⟨hC.1, hC.2.1, hC.2.2.1, hC.2.2.2.1, hC.2.2.2.2.1⟩ hM
      ⟨m_callB hy.1 hC.2.2.2.2.1 hl hroom, hC.2.2.2.2.1 _ hy.2.1, hC.2.2.2.2.1 _ hy.2.2.1⟩ ⟨x_blind (g_G g) _ h, hrecv, hpre⟩ rfl (by simp [hnA]) hlv.1 rfl (lv_room (by rw [hcw]; exact hw)) hd hc
  intro T hT X
  rcases hr T hT X with ⟨v, st₀, t, T', L, h0, X', hL, e1, e2, hQ, st⟩ | ⟨q, st₀, t, T', L, E, ce, h0, X', hL, e1, e2, ⟨hE, hI1, hF⟩, hce, hcv, hcl, st⟩
  · exact hQ.elim
  · subst hE
    obtain ⟨hz, hk⟩ := hF
    rw [h0] at hz hk
    have hS1 : va_S (m_A (g_G g)) (g_s g).heap T'.heap (locs ++ L) := ⟨Nat.le_trans hS.1 (by rw [e1]; exact hz), fun q h1 h2 => by rw [e1, hk q (Nat.lt_of_lt_of_le h1 hS.1) h2]; exact hS.2.1 q h1 h2, fun q hq => (List.mem_append.mp hq).elim (hS.2.2 q) (hL q)⟩
    obtain ⟨t2, a1, b1⟩ := kx T'.heap (locs ++ L) ls q ce (by rw [e1]; exact hI1) hS1 hlv (by rw [e1]; exact hce) hcv hcl T' rfl X'
    exact ⟨t2, st.trans a1, b1⟩
/-- a helper is called -/
theorem gw_callH {hh : List (Nat × Nat × Nat × Nat)} {Q' : Option Value → m_H → Prop} (hC : gC K g) (hG : g_G g = G) (hM : hMet (g_l g) y cc nL hh d As h Q' G) (hcd : Cond.codeWith y cc nL (some .int) hh ∈ m_tb) (hst0 : Cond.static y ∈ m_tb) (hini : Cond.initialized y.cls ∈ m_tb) (hds : y.cls ≠ "java/lang/invoke/MethodHandle" ∧ y.cls ≠ "java/lang/invoke/VarHandle" ∧ (parseMethodDescriptor y.desc).map (fun d => d.parameters.length) = some n) (hd : decode K.2.1 pc = .ok (.invokestatic idx, 3)) (hl : Cond.methodLink K.1 idx y ∈ m_tb) (hroom : d + 1 ≤ (g_R g).frames ∧ 8 + (nL + 11) + 100 * d ≤ (g_R g).locals) (hnA : As.length = n) (hw : (rest.map fun v => v.category).sum ≤ 8) (hx : xKK G (g_s g)) (hc : z.1 + 1 ≤ (g_R g).cells ∧ z.2 + 6 ≤ (g_R g).slots)
    {st : List Value} (hst1 : st = As.reverse ++ rest) (kk : ∀ (r : Option Value) (h' : m_H), Q' r h' → GW K g (pc + 3) (z.1 + 1, z.2 + 6) lv (r.toList ++ rest) h') : GW K g pc z lv st h := by
  subst hst1
  subst hG
  intro H locs ls hI hS hlv
  have hst : m_st (g_G g) (As.reverse ++ rest) = (As.map (m_v (g_G g))).reverse ++ m_st (g_G g) rest := by simp [m_st]
  rw [hst]
  have hcw : (m_st (g_G g) rest).map (fun v => v.category) = rest.map (fun v => v.category) := by simp [m_st, Function.comp_def, m_cat]
  have hgood : ∀ w ∈ Cond.codeWith y cc nL (some .int) hh :: m_tb, w ∈ m_tb ∧ ((w.onTables && w.keeps) = true ∨ ∃ ty, w = .arrayClass ty) := by
    intro w hw
    have hw' : w ∈ m_tb := by
      rcases List.mem_cons.mp hw with rfl | h
      · exact hcd
      · exact h
    exact ⟨hw', good_of_word (m_tb_good w hw')⟩
  have hcsw : vx_CSW (g_R g) (g_s g) (g_a g) K.1 idx y cc nL (some .int) hh (Cond.codeWith y cc nL (some .int) hh :: m_tb) (m_R d 1 6) 1 6 n :=
    ⟨⟨rfl, rfl, hroom.1, hroom.2, pay_in hC.2.2.2.2.1 hgood, List.mem_cons_self⟩, hC.2.2.2.2.1 _ hcd, hC.2.2.2.2.1 _ hini, ⟨hds.1, hds.2.1⟩, fun sig hs => by
      have h2 := hds.2.2
      rw [hs] at h2
      exact (Option.some.inj h2).symm, hC.2.2.2.2.1 _ hl, hC.2.2.2.2.1 _ hst0⟩
  have hr := vx_runSW (n := n) (As := As.map (m_v (g_G g))) (rest := m_st (g_G g) rest) (H := H) (locs := locs) (cells := z.1) (slots := z.2) (below := g_b g) (meth := g_k g) (e := g_e g) (g := F0 (g_m g) pc ls ((As.map (m_v (g_G g))).reverse ++ m_st (g_G g) rest)) ⟨hC.1, hC.2.1, hC.2.2.1, hC.2.2.2.1, hC.2.2.2.2.1⟩ hM hcsw ⟨x_blind (g_G g) _ h, x_pre hC.2.2.2.2.2.1 hx hI hS hC.2.2.2.2.2.2.2.2.2⟩ rfl (by simp [hnA]) hlv.1 rfl (lv_room (by rw [hcw]; exact hw)) hd hc
  intro T hT X
  obtain ⟨v, st₀, t, T', L, h0, X', hL, e1, e2, ⟨⟨r, h', hQ, hv, hI'⟩, hz, hk⟩, st⟩ := hr T hT X
  cases hv
  rw [h0] at hz hk
  have hS1 : va_S (m_A (g_G g)) (g_s g).heap T'.heap (locs ++ L) := ⟨Nat.le_trans hS.1 (by rw [e1]; exact hz), fun q h1 h2 => by rw [e1, hk q (Nat.lt_of_lt_of_le h1 hS.1) h2]; exact hS.2.1 q h1 h2, fun q hq => (List.mem_append.mp hq).elim (hS.2.2 q) (hL q)⟩
  obtain ⟨t2, a1, b1⟩ := kk r h' hQ T'.heap (locs ++ L) ls (by rw [e1]; exact hI') hS1 hlv T' rfl X'
  refine ⟨t2, st t2 ?_, b1⟩
  have hst2 : m_st (g_G g) (r.toList ++ rest) = (r.map (m_v (g_G g))).toList ++ m_st (g_G g) rest := by cases r <;> simp [m_st]
  rw [hst2] at a1
  exact a1
end GH
theorem h_train (d : Nat) {q : m_S} (hq : isW q) (h9 : s_A q 239 1 1) (a b : Int32) (X : X_) {l : Launch} (hl : l.stackTraces = false) (G : m_G) (Q : Option Value → m_H → Prop)
    (k0 : ∀ v, fX11_train a b X = some (v, X) → okTrain X a b → Q (some (.int 0)) (m_w q (sJ X 239 0 v.toInt64))) (k1 : ¬ okTrain X a b → Q (some (.int 1)) (m_w q X)) (hv : okTrain X a b → ∃ v, fX11_train a b X = some (v, X)) : hMet l yL_train cL_train 5 [(0, 10, 13, 13)] (d + 7) [.ref 0, .int a, .int b, .ref 239] (m_w q X) Q G := by
  refine hm_of (by decide +kernel) (Nat.le_of_ble_eq_true rfl) (fun g hC hL hR hG hx ht hZ => ?_)
  have hl' : (g_l g).stackTraces = false := by rw [hL]; exact hl
  have hroom : d + 6 + 1 ≤ (g_R g).frames ∧ 8 + (3 + 11) + 100 * (d + 6) ≤ (g_R g).locals := by
    rw [hR]
    refine ⟨Nat.le_refl _, ?_⟩
    show 8 + (3 + 11) + 100 * (d + 6) ≤ 100 * (d + 7)
    omega
  refine gw_aload_n hC 3 dL_train_0 rfl ?_
  refine gw_iconst hC (v := 0) dL_train_1 rfl ?_
  refine gw_aload_n hC 0 dL_train_2 rfl ?_
  refine gw_iload_n hC 1 dL_train_3 rfl ?_
  refine gw_iload_n hC 2 dL_train_4 rfl ?_
  by_cases ok : okTrain X a b
  · obtain ⟨v, e1⟩ := hv ok
    refine gw_cVi (q := q) (X' := X) (v := v) (rest := [.int 0, .ref 239]) hC [.int a, .int b] (aX11_train (d + 4) q hq a b X v X e1) mY_X11_train dL_train_5 ml_L_7 (lf_o (w_lf (q := q) hq)) hroom rfl (Nat.le_of_ble_eq_true rfl) ⟨Nat.zero_le _, Nat.zero_le _⟩ rfl ?_
    refine gw_i2l hC dL_train_8 ?_
    refine gw_lsN hC 0 dL_train_9 h9 (by decide) (by decide) rfl ?_
    refine gw_goto (tgt := 17) hC dL_train_10 (by decide) ?_
    refine gw_iconst hC (v := 0) dL_train_17 rfl ?_
    exact gh_ret hC hG hZ rfl dL_train_18 ⟨Nat.zero_le _, Nat.zero_le _⟩ (k0 v e1 ok)
  · refine gx_call (n := 2) (ci := 11) (As := [.int a, .int b]) (rest := [.int 0, .ref 239]) hC hG (hL ▸ x_train d hq a b X ok hl G) mY_X11_train dL_train_5 ml_L_7 (lf_o (w_lf (q := q) hq)) hroom rfl (Nat.le_of_ble_eq_true rfl) hx (by rw [hR]; exact ⟨Nat.le_refl _, Nat.le_refl _⟩) rfl (fun H1 locs1 ls q9 ce hI1 hS1 hlv hce hcv hcl => ?_)
    refine hc_catch (own := RL) (name := nsE) (E := nsE) hC.2.2.2.1 { startPc := 0, endPc := 10, handlerPc := 13, catchType := 13 } [] (ht.trans rfl) rfl (by decide) (hC.2.2.2.2.1 _ x_klL) (va_Nw.use rfl hx.2.2.1) hce hcv hcl ?_
    refine lv_astore hC.1 hC.2.1 dL_train_13 hlv (Nat.le_of_ble_eq_true rfl) rfl (fun ls' hl2 => ?_)
    refine lv_iconst (v := 1) hC.1 hC.2.1 dL_train_15 rfl ?_
    exact gh_W (z := (1, 6)) hC hG hZ rfl dL_train_16 ⟨Nat.le_refl _, Nat.le_refl _⟩ (k1 ok) hI1 hS1
theorem h_mean (d : Nat) {q : m_S} (hq : isW q) (h9 : s_A q 239 1 1) (a : Int32) (X : X_) (hX : Inv X) {l : Launch} (hl : l.stackTraces = false) (G : m_G) (Q : Option Value → m_H → Prop)
    (k0 : ∀ v, fX11_mean a X = some (v, X) → okMean X a → Q (some (.int 0)) (m_w q (sJ X 239 0 v.toInt64))) (k1 : ¬ okMean X a → Q (some (.int 1)) (m_w q X)) (hv : okMean X a → ∃ v, fX11_mean a X = some (v, X)) : hMet l yL_mean cL_mean 4 [(0, 9, 12, 13)] (d + 7) [.ref 0, .int a, .ref 239] (m_w q X) Q G := by
  refine hm_of (by decide +kernel) (Nat.le_of_ble_eq_true rfl) (fun g hC hL hR hG hx ht hZ => ?_)
  have hl' : (g_l g).stackTraces = false := by rw [hL]; exact hl
  have hroom : d + 6 + 1 ≤ (g_R g).frames ∧ 8 + (5 + 11) + 100 * (d + 6) ≤ (g_R g).locals := by
    rw [hR]
    refine ⟨Nat.le_refl _, ?_⟩
    show 8 + (5 + 11) + 100 * (d + 6) ≤ 100 * (d + 7)
    omega
  refine gw_aload_n hC 2 dL_mean_0 rfl ?_
  refine gw_iconst hC (v := 0) dL_mean_1 rfl ?_
  refine gw_aload_n hC 0 dL_mean_2 rfl ?_
  refine gw_iload_n hC 1 dL_mean_3 rfl ?_
  by_cases ok : okMean X a
  · obtain ⟨v, e1⟩ := hv ok
    refine gw_cVi (q := q) (X' := X) (v := v) (rest := [.int 0, .ref 239]) hC [.int a] (aX11_mean (d + 4) q hq a X v X e1) mY_X11_mean dL_mean_4 ml_L_15 (lf_o (w_lf (q := q) hq)) hroom rfl (Nat.le_of_ble_eq_true rfl) ⟨Nat.zero_le _, Nat.zero_le _⟩ rfl ?_
    refine gw_i2l hC dL_mean_7 ?_
    refine gw_lsN hC 0 dL_mean_8 h9 (by decide) (by decide) rfl ?_
    refine gw_goto (tgt := 15) hC dL_mean_9 (by decide) ?_
    refine gw_iconst hC (v := 0) dL_mean_15 rfl ?_
    exact gh_ret hC hG hZ rfl dL_mean_16 ⟨Nat.zero_le _, Nat.zero_le _⟩ (k0 v e1 ok)
  · refine gx_call (n := 1) (ci := 11) (As := [.int a]) (rest := [.int 0, .ref 239]) hC hG (hL ▸ x_mean d hq a X hX ok hl G) mY_X11_mean dL_mean_4 ml_L_15 (lf_o (w_lf (q := q) hq)) hroom rfl (Nat.le_of_ble_eq_true rfl) hx (by rw [hR]; exact ⟨Nat.le_refl _, Nat.le_refl _⟩) rfl (fun H1 locs1 ls q9 ce hI1 hS1 hlv hce hcv hcl => ?_)
    refine hc_catch (own := RL) (name := nsE) (E := nsE) hC.2.2.2.1 { startPc := 0, endPc := 9, handlerPc := 12, catchType := 13 } [] (ht.trans rfl) rfl (by decide) (hC.2.2.2.2.1 _ x_klL) (va_Nw.use rfl hx.2.2.1) hce hcv hcl ?_
    refine lv_astore_n hC.1 hC.2.1 dL_mean_12 rfl hlv (Nat.le_of_ble_eq_true rfl) rfl (fun ls' hl2 => ?_)
    refine lv_iconst (v := 1) hC.1 hC.2.1 dL_mean_13 rfl ?_
    exact gh_W (z := (1, 6)) hC hG hZ rfl dL_mean_14 ⟨Nat.le_refl _, Nat.le_refl _⟩ (k1 ok) hI1 hS1
