/-! train and mean where they throw -/
def nsE : String := "java/util/NoSuchElementException"
def nsR : String := "java/lang/RuntimeException"
def nsN : List String := ["java/lang/Exception"]
abbrev nsC : ByteArray := prog_30_method_4_code
theorem nsC_0 : decode nsC 0 = .ok (.aload_n 0, 1) := by decide +kernel
theorem nsC_1 : decode nsC 1 = .ok (.aload_n 1, 1) := by decide +kernel
theorem nsC_2 : decode nsC 2 = .ok (.invokespecial 13, 3) := by decide +kernel
theorem nsC_5 : decode nsC 5 = .ok (.return_, 1) := by decide +kernel
def x_B : List Cond := [.castable nsE nsE, .declares (Bundle.initS "java/lang/RuntimeException"), .declares (Bundle.initS "java/lang/Exception"), .declares (Bundle.initS Bundle.tN)]
theorem x_in0 : ∀ w ∈ (hx_atS RX11 215 nsE nsR 13 nsC nsN).filter goodWord, w ∈ lw_tbl := by decide +kernel
theorem x_in1 : ∀ w ∈ (hx_atS RX11 215 nsE nsR 13 nsC nsN).filter (fun w => !goodWord w), w ∈ x_B := by decide +kernel
theorem x_ot : ∀ w ∈ Cond.classLink RX11 211 nsE :: Cond.initialized nsE :: hx_atS RX11 215 nsE nsR 13 nsC nsN, vx_ot w = true := by decide +kernel
theorem x_kl : Cond.classLink RX11 211 nsE ∈ m_tb := m_tb_in (by decide +kernel) rfl
theorem x_ini : Cond.initialized nsE ∈ m_tb := m_tb_in (by decide +kernel) rfl
theorem x_klL : Cond.classLink RL 13 nsE ∈ m_tb := m_tb_in (by decide +kernel) rfl
/-- what a throw rests on, beside m_KK -/
def xKK (G : m_G) (U : State) : Prop := vx_Zq Bundle.tN "UNASSIGNED_STACK" Bundle.steD (m_A G) U U.heap ∧ vx_Zq Bundle.tN "SUPPRESSED_SENTINEL" Bundle.listD (m_A G) U U.heap ∧ va_Nw (.castable nsE nsE) U ∧ va_Nw (.declares (Bundle.initS "java/lang/RuntimeException")) U ∧ va_Nw (.declares (Bundle.initS "java/lang/Exception")) U ∧ va_Nw (.declares (Bundle.initS Bundle.tN)) U
theorem xKK.go {G : m_G} {s U : State} (h : xKK G s) (hW : s.WarmedH U.vm) (hq : ∀ a : Nat, a < s.heap.size → ¬ m_A G a → U.heap[a]? = s.heap[a]?) : xKK G U := by
  obtain ⟨h1, h2, h3, h4, h5, h6⟩ := h
  exact ⟨(vx_Zq.moved hW.alike h1).kept hq, (vx_Zq.moved hW.alike h2).kept hq, h3.warmC hW, h4.warmD hW, h5.warmD hW, h6.warmD hW⟩
theorem xKK.same {G : m_G} {s U : State} (h : xKK G s) (hv : U.vm = s.vm) (hq : U.heap = s.heap) : xKK G U := by
  obtain ⟨h1, h2, h3, h4, h5, h6⟩ := h
  have ha : s.vm.Alike U.vm := by rw [hv]; exact Vm.Alike.refl s.vm
  exact ⟨by rw [hq]; exact vx_Zq.moved ha h1, by rw [hq]; exact vx_Zq.moved ha h2, h3.same rfl hv.symm, h4.same rfl hv.symm, h5.same rfl hv.symm, h6.same rfl hv.symm⟩
theorem x_hat {args : Array Value} {s : State} {G : m_G} (ht : ∀ w ∈ m_tb, w.before args s = true) (hx : xKK G s) : ∀ w ∈ hx_atS RX11 215 nsE nsR 13 nsC nsN, w.before args s = true :=
  vx_hat (B := x_B) (fun w hw => ht w (m_tb_in (x_in0 w hw) (List.mem_filter.mp hw).2)) x_in1 (vx_c (va_Nw.use rfl hx.2.2.1) (vx_c (va_Nw.use rfl hx.2.2.2.1) (vx_c (va_Nw.use rfl hx.2.2.2.2.1) (vx_c (va_Nw.use rfl hx.2.2.2.2.2) vx_n))))
/-- where it has thrown: the world is as it was -/
def xX (G : m_G) (h : m_H) : String → State → State → Prop := fun E st t => E = nsE ∧ m_In G h t.heap ∧ va_F (m_A G) st t
theorem x_end {G : m_G} {h : m_H} {H : Heap} {s t : State} {locs : List Loc} (hI : m_In G h H) (hS : va_S (m_A G) s.heap H locs) (hsz : H.size ≤ t.heap.size) (hk : ∀ q : Nat, q < H.size → t.heap[q]? = H[q]?) : xX G h nsE s t :=
  ⟨rfl, ⟨fun k q hq => (hI.1 k q hq).kept (hk q.1 (hI.1 k q hq).lt), hI.2⟩, Nat.le_trans hS.1 hsz, fun q h1 h2 => (hk q (Nat.lt_of_lt_of_le h1 hS.1)).trans (hS.2.1 q h1 h2)⟩
def m_PcX (G : m_G) (args : List Value) (h : m_H) : Array Value → State → Prop := va_Pc (args.map (m_v G)) (fun U => m_In G h U.heap ∧ m_KK G U ∧ G.1 ≤ U.heap.size ∧ xKK G U)
theorem x_blind (G : m_G) (args : List Value) (h : m_H) : FrameBlind (m_PcX G args h) := fun a U g mk q => by
  obtain ⟨q0, q1, q2, q3, q4⟩ := q
  exact ⟨q0, q1, m_KK.same q2 rfl rfl, q3, xKK.same q4 rfl rfl⟩
theorem x_pre {G : m_G} {h : m_H} {H : Heap} {s : State} {locs : List Loc} {args : List Value} (hK : m_KK G s) (hx : xKK G s) (hI : m_In G h H) (hS : va_S (m_A G) s.heap H locs) (hge : G.1 ≤ s.heap.size) : ∀ U : State, U.heap = H → s.WarmedH U.vm → m_PcX G args h (args.map (m_v G)).toArray U := fun U hU hW =>
  ⟨rfl, by rw [hU]; exact hI, hK.go hW (fun a h1 h2 => by rw [hU]; exact hS.2.1 a h1 h2), by rw [hU]; exact Nat.le_trans hge hS.1, hx.go hW (fun a h1 h2 => by rw [hU]; exact hS.2.1 a h1 h2)⟩
theorem vx_of {y : MethodName} {cc : ByteArray} {nL : Nat} {ret : Option FieldType} {d : Nat} {args : List Value} {h : m_H} {Qc : Array Value → State → Outcome → State → Prop} {XC : String → State → State → Prop} {l : Launch} {G : m_G} (hy : plainName y.cls = true) (hn : (lg_sl args).length ≤ nL)
    (k : ∀ g : g_C, gC (y.cls, cc, nL, ret, y.name, d, 1, 6) g → g_l g = l → g_R g = m_R d 1 6 → g_G g = G → xKK G (g_s g) → (∀ x ∈ (g_c g).exceptionTable.toList, False) → g_Z g = vx_MQ (g_b g) Qc XC (g_a g) (g_s g) 1 6 (m_A G) → GW (y.cls, cc, nL, ret, y.name, d, 1, 6) g 0 (0, 0) (lv_args 0 args) [] h) :
    vx_Met l y (Cond.code y cc nL ret :: m_tb) (m_R d 1 6) (m_PcX G args h) Qc XC 1 6 (m_A G) := by
  refine vx_ofW (cc := cc) (maxL := nL) (ret := ret) hy rfl ?_
  intro p e s m as below meth c s₁ B hml ht hv
  obtain ⟨rfl, hIn, hK, hge, hx⟩ := hv
  have hts := atoms_spec (ws := Cond.code y cc nL ret :: m_tb) B.pre
  have hl := lv_entry (args.map (m_v G)) (n := nL) (by rw [m_sl]; exact hn)
  rw [lg_entry_eq]
  generalize (lg_sl (args.map (m_v G)) ++ List.replicate (nL - (lg_sl (args.map (m_v G))).length) Slot.unset).toArray = ls at hl ⊢
  rw [m_lv_args] at hl
  exact k (p, l, e, m_R d 1 6, s, m, _, below, meth, c, G, vx_MQ below Qc XC _ s 1 6 (m_A G)) ⟨B.exec, B.bytes, hml, findClass_of_methodNamed B.named, fun w hw => hts w (List.mem_cons_of_mem _ hw), hK, B.returns, B.notSynchronized, (name_of_methodNamed B.named B.method).1, hge⟩ rfl rfl rfl hx ht rfl s.heap [] ls hIn va_S.rf hl
section GX
variable {K : m_K} {g : g_C} {pc : Nat} {lv : List (Nat × Value)} {h : m_H} {Qc : Array Value → State → Outcome → State → Prop} {G : m_G}
theorem gx_S (hC : gC K g) (hK : K.1 = RX11) (hl : (g_l g).stackTraces = false) (hG : g_G g = G) (hx : xKK G (g_s g)) (ht : ∀ x ∈ (g_c g).exceptionTable.toList, False) (hZ : g_Z g = vx_MQ (g_b g) Qc (xX G h) (g_a g) (g_s g) 1 6 (m_A G)) (hR : 5 < (g_R g).frames ∧ 82 ≤ (g_R g).locals ∧ 1 ≤ (g_R g).cells ∧ 6 ≤ (g_R g).slots) {is i : Nat} {text : String} (hs : (RX11, is, text, i) ∈ m_strs)
    (d0 : decode K.2.1 pc = .ok (.new 211, 3)) (d3 : decode K.2.1 (pc + 3) = .ok (.dup, 1)) (d4 : decode K.2.1 (pc + 4) = .ok (.ldc is, 2)) (d6 : decode K.2.1 (pc + 6) = .ok (.invokespecial 215, 3)) (d9 : decode K.2.1 (pc + 9) = .ok (.athrow, 1)) : GW K g pc (0, 0) lv [] h := by
  subst hG
  intro H locs ls hI hS hlv
  rw [hZ]
  have hown : (g_s g).vm.findClass RX11 = some (g_m g).cls := hK ▸ hC.2.2.2.1
  exact hx_throwS (own := RX11) (cls := nsE) (Yn := nsR) (ix := 13) (rx := nsC) (text := text) (names := nsN) (ik := 211) (is := is) (ic := 215) (sa := (g_G g).2.2.2 i) (A := m_A (g_G g)) hC.1 hC.2.1 hl hown (by decide +kernel) (by decide +kernel) nsC_0 nsC_1 nsC_2 nsC_5 (by decide +kernel) (hC.2.2.2.2.1 _ x_kl) (hC.2.2.2.2.1 _ x_ini) (hC.2.2.2.2.2.1.2.2.2.2.1 _ hs) (x_hat hC.2.2.2.2.1 hx) x_ot hx.1 hx.2.1 hS (hlv.1.trans hC.2.2.1.symm) d0 d3 d4 d6 d9 (fun x h => (ht x h).elim) hR.1 (show 0 + (13 * (2 + 1) + 43) ≤ (g_R g).locals from hR.2.1) hR.2.2.1 hR.2.2.2 hC.2.2.2.2.2.2.2.1 (fun t hal hsz hk => x_end hI hS hsz hk) hS.2.2 (Nat.le_refl _) (Nat.le_refl _)
theorem gx_SW (hC : gC K g) (hK : K.1 = RX11) (hl : (g_l g).stackTraces = false) (hG : g_G g = G) (hx : xKK G (g_s g)) (ht : ∀ x ∈ (g_c g).exceptionTable.toList, False) (hZ : g_Z g = vx_MQ (g_b g) Qc (xX G h) (g_a g) (g_s g) 1 6 (m_A G)) (hR : 5 < (g_R g).frames ∧ 82 ≤ (g_R g).locals ∧ 1 ≤ (g_R g).cells ∧ 6 ≤ (g_R g).slots) {is i : Nat} {text : String} (hs : (RX11, is, text, i) ∈ m_strs)
    (d0 : decode K.2.1 pc = .ok (.new 211, 3)) (d3 : decode K.2.1 (pc + 3) = .ok (.dup, 1)) (d4 : decode K.2.1 (pc + 4) = .ok (.ldc_w is, 3)) (d7 : decode K.2.1 (pc + 7) = .ok (.invokespecial 215, 3)) (d10 : decode K.2.1 (pc + 10) = .ok (.athrow, 1)) : GW K g pc (0, 0) lv [] h := by
  subst hG
  intro H locs ls hI hS hlv
  rw [hZ]
  have hown : (g_s g).vm.findClass RX11 = some (g_m g).cls := hK ▸ hC.2.2.2.1
  exact hx_throwSW (own := RX11) (cls := nsE) (Yn := nsR) (ix := 13) (rx := nsC) (text := text) (names := nsN) (ik := 211) (is := is) (ic := 215) (sa := (g_G g).2.2.2 i) (A := m_A (g_G g)) hC.1 hC.2.1 hl hown (by decide +kernel) (by decide +kernel) nsC_0 nsC_1 nsC_2 nsC_5 (by decide +kernel) (hC.2.2.2.2.1 _ x_kl) (hC.2.2.2.2.1 _ x_ini) (hC.2.2.2.2.2.1.2.2.2.2.1 _ hs) (x_hat hC.2.2.2.2.1 hx) x_ot hx.1 hx.2.1 hS (hlv.1.trans hC.2.2.1.symm) d0 d3 d4 d7 d10 (fun x h => (ht x h).elim) hR.1 (show 0 + (13 * (2 + 1) + 43) ≤ (g_R g).locals from hR.2.1) hR.2.2.1 hR.2.2.2 hC.2.2.2.2.2.2.2.1 (fun t hal hsz hk => x_end hI hS hsz hk) hS.2.2 (Nat.le_refl _) (Nat.le_refl _)
end GX
theorem x_train (d : Nat) {q : m_S} (hq : isW q) (a b : Int32) (X : X_) (hno : ¬ okTrain X a b) {l : Launch} (hl : l.stackTraces = false) (G : m_G) :
    vx_Met l yX11_train (Cond.code yX11_train cX11_train 3 (some .int) :: m_tb) (m_R (d + 6) 1 6) (m_PcX G [.ref 0, .int a, .int b] (m_w q X)) (fun _ _ _ _ => False) (xX G (m_w q X)) 1 6 (m_A G) := by
  refine vx_of (by decide +kernel) (Nat.le_of_ble_eq_true rfl) (fun g hC hL hR hG hx ht hZ => ?_)
  have hl' : (g_l g).stackTraces = false := by rw [hL]; exact hl
  have hR' : 5 < (g_R g).frames ∧ 82 ≤ (g_R g).locals ∧ 1 ≤ (g_R g).cells ∧ 6 ≤ (g_R g).slots := by
    rw [hR]
    refine ⟨?_, ?_, Nat.le_refl _, Nat.le_refl _⟩
    · show 5 < d + 6; omega
    · show 82 ≤ 100 * (d + 6); omega
  refine gw_aload_n hC 0 dX11_train_0 rfl ?_
  refine gw_getr hC 11 1 dX11_train_1 fl_X11_19 (by decide) (by decide) rfl (lf_o (w_lf (q := q) hq)) ((m_q_ne (by decide)).trans (lf_r1 (w_lf (q := q) hq))) ?_
  refine gw_bipush hC (v := 6) dX11_train_4 (by decide) ?_
  refine gw_iload_n hC 1 dX11_train_6 rfl ?_
  refine gw_cVi (q := q) (X' := X) (rest := []) hC [.int 6, .int a] (aX5_has (d + 4) q hq 4 6 a pl4 X _ X (k_has (by decide))) mY_X5_has dX11_train_7 ml_X11_134 (pl_o (w_pl (q := q) hq pl4)) ?_ rfl (Nat.le_of_ble_eq_true rfl) ⟨Nat.zero_le _, Nat.zero_le _⟩ rfl ?_
  · rw [hR]
    refine ⟨Nat.le_refl _, ?_⟩
    show 8 + (_ + 11) + 100 * (d + 5) ≤ 100 * (d + 6)
    omega
  refine gw_if_ne (tgt := 23) hC dX11_train_10 (by decide) (fun c => ?_) (fun c => ?_)
  · have c' : 0 ≤ a ∧ a < bP X 4 1 6 := Classical.byContradiction fun z => c (bz_f z)
    refine gw_iload_n hC 2 dX11_train_23 rfl ?_
    refine gw_tabOut (tgt := 141) hC dX11_train_24 ?_ (by decide) ?_
    · by_cases e : b < 0
      · have e1 := i32_lt.mp e
        have z : (0 : Int32).toInt = 0 := by decide
        exact Or.inl (by omega)
      · have e2 : 6 < b := Int32.not_le.mp (fun z => hno ⟨c', Int32.not_lt.mp e, z⟩)
        have e1 := i32_lt.mp e2
        have z : (6 : Int32).toInt = 6 := by decide
        exact Or.inr (by omega)
    · exact gx_S hC rfl hl' hG hx ht hZ hR' (List.mem_of_getElem? (l := m_strs) (i := 6) rfl) dX11_train_141 dX11_train_144 dX11_train_145 dX11_train_147 dX11_train_150
  · exact gx_S hC rfl hl' hG hx ht hZ hR' (List.mem_of_getElem? (l := m_strs) (i := 5) rfl) dX11_train_13 dX11_train_16 dX11_train_17 dX11_train_19 dX11_train_22
theorem x_mean (d : Nat) {q : m_S} (hq : isW q) (a : Int32) (X : X_) (hX : Inv X) (hno : ¬ okMean X a) {l : Launch} (hl : l.stackTraces = false) (G : m_G) :
    vx_Met l yX11_mean (Cond.code yX11_mean cX11_mean 5 (some .int) :: m_tb) (m_R (d + 6) 1 6) (m_PcX G [.ref 0, .int a] (m_w q X)) (fun _ _ _ _ => False) (xX G (m_w q X)) 1 6 (m_A G) := by
  refine vx_of (by decide +kernel) (Nat.le_of_ble_eq_true rfl) (fun g hC hL hR hG hx ht hZ => ?_)
  have hl' : (g_l g).stackTraces = false := by rw [hL]; exact hl
  have hR' : 5 < (g_R g).frames ∧ 82 ≤ (g_R g).locals ∧ 1 ≤ (g_R g).cells ∧ 6 ≤ (g_R g).slots := by
    rw [hR]
    refine ⟨?_, ?_, Nat.le_refl _, Nat.le_refl _⟩
    · show 5 < d + 6; omega
    · show 82 ≤ 100 * (d + 6); omega
  have c6 := hX.w.ok.c6
  refine gw_aload_n hC 0 dX11_mean_0 rfl ?_
  refine gw_getr hC 11 1 dX11_mean_1 fl_X11_19 (by decide) (by decide) rfl (lf_o (w_lf (q := q) hq)) ((m_q_ne (by decide)).trans (lf_r1 (w_lf (q := q) hq))) ?_
  refine gw_getr hC 5 0 dX11_mean_4 fl_X11_324 (by decide) (by decide) rfl (pl_o (w_pl (q := q) hq pl4)) ((m_q_ne (by decide)).trans (pl_r0 (w_pl (q := q) hq pl4))) ?_
  refine gw_bipush hC (v := 6) dX11_mean_7 (by decide) ?_
  refine gw_iaN hC 6 dX11_mean_9 (pl_a0 (w_pl (q := q) hq pl4)) (by decide) (by decide) rfl ?_
  refine gw_top (x' := nI (ct (bP X 4) 6)) c6.1 ?_
  refine gw_istore_n hC [(2, .int (nI (ct (bP X 4) 6))), (0, .ref 0), (1, .int a)] dX11_mean_10 (Nat.le_of_ble_eq_true rfl) rfl ?_
  refine gw_iload_n hC 0 dX11_mean_11 rfl ?_
  refine gw_iconst hC (v := 1) dX11_mean_12 rfl ?_
  refine gw_icmp_lt (tgt := 25) hC dX11_mean_13 (by decide) (fun _ => ?_) (fun c1 => ?_)
  · exact gx_SW hC rfl hl' hG hx ht hZ hR' (List.mem_of_getElem? (l := m_strs) (i := 7) rfl) dX11_mean_25 dX11_mean_28 dX11_mean_29 dX11_mean_32 dX11_mean_35
  refine gw_iload_n hC 2 dX11_mean_16 rfl ?_
  refine gw_if_lt (tgt := 25) hC dX11_mean_17 (by decide) (fun _ => ?_) (fun c2 => ?_)
  · exact gx_SW hC rfl hl' hG hx ht hZ hR' (List.mem_of_getElem? (l := m_strs) (i := 7) rfl) dX11_mean_25 dX11_mean_28 dX11_mean_29 dX11_mean_32 dX11_mean_35
  refine gw_iload_n hC 2 dX11_mean_20 rfl ?_
  refine gw_iconst hC (v := 1) dX11_mean_21 rfl ?_
  refine gw_icmp_le (tgt := 36) hC dX11_mean_22 (by decide) (fun c3 => ?_) (fun _ => ?_)
  · refine absurd (show okMean X a from ⟨?_, in01.mp ⟨c2, c3⟩⟩) hno
    have h1 := c6.2
    exact (nI_leI (a := 1) (by decide) (by omega)).mp (Int32.not_lt.mp c1)
  · exact gx_SW hC rfl hl' hG hx ht hZ hR' (List.mem_of_getElem? (l := m_strs) (i := 7) rfl) dX11_mean_25 dX11_mean_28 dX11_mean_29 dX11_mean_32 dX11_mean_35
