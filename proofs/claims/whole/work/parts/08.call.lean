/-- a method that may be called: its code, that it is there, its sort, how many arguments -/
def m_Y (y : MethodName) (cc : ByteArray) (nL : Nat) (ret : Option FieldType) (n : Nat) : Prop :=
  Cond.code y cc nL ret ∈ m_tb ∧ Cond.initialized y.cls ∈ m_tb ∧ (y.cls ≠ "java/lang/invoke/MethodHandle" ∧ y.cls ≠ "java/lang/invoke/VarHandle" ∧ (parseMethodDescriptor y.desc).map (fun d => d.parameters.length) = some n) ∧ nL ≤ 80
def m_YV (y : MethodName) (cc : ByteArray) (nL : Nat) (ret : Option FieldType) (n ci : Nat) : Prop :=
  m_Y y cc nL ret n ∧ Cond.instanceMethod y ∈ m_tb ∧ Cond.selects y.cls y y ∈ m_tb ∧ y.cls = m_nm ci ∧ ci < 13
section MCL
variable {K : m_K} {pc : Nat} {z : Nat × Nat} {lv : List (Nat × Value)} {rest : List Value} {h : m_H} {Q : Option Value → m_H → Prop}
variable {y : MethodName} {cc : ByteArray} {nL : Nat} {ret : Option FieldType} {n ci d mc ms : Nat} {Q' : Option Value → m_H → Prop} {idx : Nat} {As : List Value} {b : Nat}
/-- behind a call -/
theorem m_after {p : Program} {l : Launch} {e : Env} {R : Room} {s : State} {m : MethodId} {args : Array Value} {below : List Frame} {meth : Method} {c : Code} {G : m_G} {H : Heap} {locs : List Loc} {ls : Array Slot} {Z : State → Prop} {st0 : List Value} {a : Array Value}
    (hr : va_Run p l e R s m args below meth c H locs z.1 z.2 mc ms (F0 m pc ls st0) (m_st G rest) (m_Q G h.2.2.2.2 mc Q' a) (m_A G)) (hS : va_S (m_A G) s.heap H locs)
    (kk : ∀ (r : Option Value) (h' : m_H) (H1 : Heap) (locs1 : List Loc), Q' r h' → m_In G h' H1 → va_S (m_A G) s.heap H1 locs1 → h'.2.2.2.2 = h.2.2.2.2 + mc → W p l e R s m args below meth c H1 locs1 (z.1 + mc) (z.2 + ms) Z (F0 m (pc + 3) ls (m_st G (r.toList ++ rest)))) :
    W p l e R s m args below meth c H locs z.1 z.2 Z (F0 m pc ls st0) := by
  intro T hT X
  obtain ⟨v, st₀, t, T', L, h0, X', hL, e1, e2, ⟨⟨r, h', hQ, hv, hI', hn'⟩, hz, hk⟩, st⟩ := hr T hT X
  cases hv
  rw [h0] at hz hk
  obtain ⟨t2, a1, b1⟩ := kk r h' T'.heap (locs ++ L) hQ (by rw [e1]; exact hI')
    ⟨Nat.le_trans hS.1 (by rw [e1]; exact hz), fun q h1 h2 => by rw [e1, hk q (Nat.lt_of_lt_of_le h1 hS.1) h2]; exact hS.2.1 q h1 h2, fun q hq => by
      rcases List.mem_append.mp hq with h | h
      · exact hS.2.2 q h
      · exact hL q h⟩ hn' T' rfl X'
  refine ⟨t2, st t2 ?_, b1⟩
  have hst : m_st G (r.toList ++ rest) = (r.map (m_v G)).toList ++ m_st G rest := by cases r <;> simp [m_st]
  rw [hst] at a1
  exact a1
/-- at any place of the walk the heap has just the world's cells above its base -/
theorem m_sz {p : Program} {l : Launch} {e : Env} {R : Room} {s : State} {m : MethodId} {args : Array Value} {below : List Frame} {meth : Method} {c : Code} {G : m_G} {H : Heap} {locs : List Loc} {n0 : Nat} {Z : State → Prop} {g : JFrame} {k2 mk : Nat}
    (hI : m_In G h H) (hS : va_S (m_A G) s.heap H locs) (hz : 0 < mk → s.heap.size = G.1 + n0) (hn : h.2.2.2.2 = n0 + z.1) (kk : (0 < mk → H.size = G.1 + h.2.2.2.2) → W p l e R s m args below meth c H locs z.1 k2 Z g) : W p l e R s m args below meth c H locs z.1 k2 Z g := by
  intro T hT X
  refine kk (fun hmk => ?_) T hT X
  have hz := hz hmk
  have h1 : H.size ≤ s.heap.size + z.1 := by rw [← hT]; exact X.heapSize
  have h2 : G.1 + h.2.2.2.2 ≤ H.size := by
    by_cases h0 : h.2.2.2.2 = 0
    · rw [h0]
      have := hS.1
      omega
    · have := (hI.1 (h.2.2.2.2 - 1) _ (m_ws_at G h (by omega))).lt
      simp only at this
      omega
  omega
theorem m_blind (G : m_G) (args : List Value) (h : m_H) (mc : Nat) : FrameBlind (m_Pc G args h mc) := fun a U g mk q => by
  obtain ⟨q0, q1, q2, q3, q4⟩ := q
  exact ⟨q0, q1, m_KK.same q2 rfl rfl, q3, q4⟩
theorem m_pre {G : m_G} {H : Heap} {s : State} {locs : List Loc} {args : List Value} (hK : m_KK G s) (hI : m_In G h H) (hS : va_S (m_A G) s.heap H locs) (hsz : 0 < mc → H.size = G.1 + h.2.2.2.2) (hge : G.1 ≤ s.heap.size) : ∀ U : State, U.heap = H → s.WarmedH U.vm → m_Pc G args h mc (args.map (m_v G)).toArray U := fun U hU hW =>
  ⟨rfl, by rw [hU]; exact hI, hK.go hW (fun a h1 h2 => by rw [hU]; exact hS.2.1 a h1 h2), by rw [hU]; exact hsz, by rw [hU]; exact Nat.le_trans hge hS.1⟩
theorem m_callB {R : Room} {s : State} {args : Array Value} {own : String} (hy : m_Y y cc nL ret n) (ht : ∀ w ∈ m_tb, w.before args s = true) (hl : Cond.methodLink own idx y ∈ m_tb) (hd : d + 1 ≤ R.frames ∧ 8 + (nL + 11) + 100 * d ≤ R.locals) : CallB R s args own idx y cc nL ret (Cond.code y cc nL ret :: m_tb) (m_R d mc ms) mc ms n :=
  callB_of n ht (m_goodIn hy.1) rfl rfl rfl (ht _ hy.2.1) (ht _ hl) hy.2.2.1 hd
theorem mw_callV (hM : MC y cc nL ret d mc ms (.ref b :: As) h Q') (hy : m_YV y cc nL ret n ci) (hd : decode K.2.1 pc = .ok (.invokevirtual idx, 3)) (hl : Cond.methodLink K.1 idx y ∈ m_tb) (hb : m_O h b ci) (hdep : K.2.2.2.2.2.1 = d + 1) (hnA : As.length = n) (hw : (rest.map fun v => v.category).sum ≤ 8) (hc : z.1 + mc ≤ K.2.2.2.2.2.2.1 ∧ z.2 + ms ≤ K.2.2.2.2.2.2.2)
    (kk : ∀ (r : Option Value) (h' : m_H), Q' r h' → MW K (pc + 3) (z.1 + mc, z.2 + ms) lv (r.toList ++ rest) h' Q) : MW K pc z lv (As.reverse ++ .ref b :: rest) h Q := by
  intro p l e s m args below meth c G H locs ls n0 hC hI hS hlv hz hn
  refine m_sz hI hS hz hn (fun hsz => ?_)
  have hst : m_st G (As.reverse ++ .ref b :: rest) = (As.map (m_v G)).reverse ++ .ref (G.1 + b) :: m_st G rest := by simp [m_st, m_v, m_ad_at G hb.1 hI.2]
  rw [hst]
  have hcw : (m_st G rest).map (fun v => v.category) = rest.map (fun v => v.category) := by simp [m_st, Function.comp_def, m_cat]
  have hargs : (Value.ref (G.1 + b) :: As.map (m_v G)) = ((Value.ref b :: As).map (m_v G)) := by simp [m_v, m_ad_at G hb.1 hI.2]
  refine m_after (z := z) (h := h) (Q' := Q') (mc := mc) (ms := ms) (va_runV (C := y.cls) (n := n) (As := As.map (m_v G)) (b := G.1 + b) (rest := m_st G rest) ⟨hC.1, hC.2.1, hC.2.2.1, hC.2.2.2.1, hC.2.2.2.2.1⟩ (hM l G)
      ⟨m_callB hy.1 hC.2.2.2.2.1 hl (by rw [hdep]; simp only [m_R]; have := hy.1.2.2.2; omega), hC.2.2.2.2.1 _ hy.2.1, hC.2.2.2.2.1 _ hy.2.2.1⟩ ⟨m_blind G _ h _, ?_, ?_⟩ rfl (by simp [hnA]) hlv.1 rfl ?_ hd hc) hS (fun r h' H1 locs1 hq hI1 hS1 hn1 => kk r h' hq p l e s m args below meth c G H1 locs1 ls n0 hC hI1 hS1 hlv hz (by rw [hn1, hn]; omega))
  · rw [hy.2.2.2.1]
    exact va_recv hC.2.2.2.2.2.1.1 hI.1 (m_cl hy.2.2.2.2) (q0 := b) ((m_ws_at G h hb.1).trans (by rw [m_E_o hb hy.2.2.2.2]))
  · rw [hargs]
    exact m_pre hC.2.2.2.2.2.1 hI hS (fun h0 => hsz (by omega)) hC.2.2.2.2.2.2.2.2.2
  · exact lv_room (by rw [hcw]; exact hw)
theorem mw_callS (hM : MC y cc nL ret d mc ms As h Q') (hy : m_Y y cc nL ret n ∧ Cond.static y ∈ m_tb) (hd : decode K.2.1 pc = .ok (.invokestatic idx, 3)) (hl : Cond.methodLink K.1 idx y ∈ m_tb) (hdep : K.2.2.2.2.2.1 = d + 1) (hnA : As.length = n) (hw : (rest.map fun v => v.category).sum ≤ 8) (hc : z.1 + mc ≤ K.2.2.2.2.2.2.1 ∧ z.2 + ms ≤ K.2.2.2.2.2.2.2)
    (kk : ∀ (r : Option Value) (h' : m_H), Q' r h' → MW K (pc + 3) (z.1 + mc, z.2 + ms) lv (r.toList ++ rest) h' Q) : MW K pc z lv (As.reverse ++ rest) h Q := by
  intro p l e s m args below meth c G H locs ls n0 hC hI hS hlv hz hn
  refine m_sz hI hS hz hn (fun hsz => ?_)
  have hst : m_st G (As.reverse ++ rest) = (As.map (m_v G)).reverse ++ m_st G rest := by simp [m_st]
  rw [hst]
  have hcw : (m_st G rest).map (fun v => v.category) = rest.map (fun v => v.category) := by simp [m_st, Function.comp_def, m_cat]
  refine m_after (z := z) (h := h) (Q' := Q') (mc := mc) (ms := ms) (va_runS (n := n) (As := As.map (m_v G)) (rest := m_st G rest) ⟨hC.1, hC.2.1, hC.2.2.1, hC.2.2.2.1, hC.2.2.2.2.1⟩ (hM l G)
      ⟨m_callB hy.1 hC.2.2.2.2.1 hl (by rw [hdep]; simp only [m_R]; have := hy.1.2.2.2; omega), hC.2.2.2.2.1 _ hy.2⟩ ⟨m_blind G _ h _, m_pre hC.2.2.2.2.2.1 hI hS (fun h0 => hsz (by omega)) hC.2.2.2.2.2.2.2.2.2⟩ rfl (by simp [hnA]) hlv.1 rfl ?_ hd hc) hS (fun r h' H1 locs1 hq hI1 hS1 hn1 => kk r h' hq p l e s m args below meth c G H1 locs1 ls n0 hC hI1 hS1 hlv hz (by rw [hn1, hn]; omega))
  exact lv_room (by rw [hcw]; exact hw)
theorem m_nestB {R : Room} {s : State} {args : Array Value} {own : String} {G : m_G} (hK : m_KK G s) (hy : m_Y y cc nL ret n) (ht : ∀ w ∈ m_tb, w.before args s = true) (hl : (own, idx, y) ∈ m_nest) (hd : d + 1 ≤ R.frames ∧ 8 + (nL + 11) + 100 * d ≤ R.locals) : va_CN R s args own idx y RX11 cc nL ret (Cond.code y cc nL ret :: m_tb) (m_R d mc ms) mc ms n :=
  va_cnB n ht (m_goodIn hy.1) rfl rfl rfl (hK.2.2.2.1 _ hl) (ht _ hy.2.1) hy.2.2.1 hd
theorem mw_callSN (hM : MC y cc nL ret d mc ms As h Q') (hy : m_Y y cc nL ret n ∧ Cond.static y ∈ m_tb) (hd : decode K.2.1 pc = .ok (.invokestatic idx, 3)) (hl : (K.1, idx, y) ∈ m_nest) (hdep : K.2.2.2.2.2.1 = d + 1) (hnA : As.length = n) (hw : (rest.map fun v => v.category).sum ≤ 8) (hc : z.1 + mc ≤ K.2.2.2.2.2.2.1 ∧ z.2 + ms ≤ K.2.2.2.2.2.2.2)
    (kk : ∀ (r : Option Value) (h' : m_H), Q' r h' → MW K (pc + 3) (z.1 + mc, z.2 + ms) lv (r.toList ++ rest) h' Q) : MW K pc z lv (As.reverse ++ rest) h Q := by
  intro p l e s m args below meth c G H locs ls n0 hC hI hS hlv hz hn
  refine m_sz hI hS hz hn (fun hsz => ?_)
  have hst : m_st G (As.reverse ++ rest) = (As.map (m_v G)).reverse ++ m_st G rest := by simp [m_st]
  rw [hst]
  have hcw : (m_st G rest).map (fun v => v.category) = rest.map (fun v => v.category) := by simp [m_st, Function.comp_def, m_cat]
  refine m_after (z := z) (h := h) (Q' := Q') (mc := mc) (ms := ms) (va_runSN (n := n) (As := As.map (m_v G)) (rest := m_st G rest) ⟨hC.1, hC.2.1, hC.2.2.1, hC.2.2.2.1, hC.2.2.2.2.1⟩ (hM l G)
      ⟨m_nestB hC.2.2.2.2.2.1 hy.1 hC.2.2.2.2.1 hl (by rw [hdep]; simp only [m_R]; have := hy.1.2.2.2; omega), hC.2.2.2.2.1 _ hy.2, trivial⟩ ⟨m_blind G _ h _, m_pre hC.2.2.2.2.2.1 hI hS (fun h0 => hsz (by omega)) hC.2.2.2.2.2.2.2.2.2⟩ rfl (by simp [hnA]) hlv.1 rfl ?_ hd hc) hS (fun r h' H1 locs1 hq hI1 hS1 hn1 => kk r h' hq p l e s m args below meth c G H1 locs1 ls n0 hC hI1 hS1 hlv hz (by rw [hn1, hn]; omega))
  exact lv_room (by rw [hcw]; exact hw)
theorem mw_callI (hM : MC y cc nL none d mc ms (.ref b :: As) h Q') (hy : m_Y y cc nL none n ∧ y.name = "<init>" ∧ Cond.instanceMethod y ∈ m_tb) (hd : decode K.2.1 pc = .ok (.invokespecial idx, 3)) (hl : Cond.methodLink K.1 idx y ∈ m_tb ∨ (K.1, idx, y) ∈ m_nest) (hb : b < h.2.2.2.2) (hdep : K.2.2.2.2.2.1 = d + 1) (hnA : As.length = n) (hw : (rest.map fun v => v.category).sum ≤ 8) (hc : z.1 + mc ≤ K.2.2.2.2.2.2.1 ∧ z.2 + ms ≤ K.2.2.2.2.2.2.2)
    (kk : ∀ (r : Option Value) (h' : m_H), Q' r h' → MW K (pc + 3) (z.1 + mc, z.2 + ms) lv (r.toList ++ rest) h' Q) : MW K pc z lv (As.reverse ++ .ref b :: rest) h Q := by
  intro p l e s m args below meth c G H locs ls n0 hC hI hS hlv hz hn
  refine m_sz hI hS hz hn (fun hsz => ?_)
  have hst : m_st G (As.reverse ++ .ref b :: rest) = (As.map (m_v G)).reverse ++ .ref (G.1 + b) :: m_st G rest := by simp [m_st, m_v, m_ad_at G hb hI.2]
  rw [hst]
  have hcw : (m_st G rest).map (fun v => v.category) = rest.map (fun v => v.category) := by simp [m_st, Function.comp_def, m_cat]
  have hargs : (Value.ref (G.1 + b) :: As.map (m_v G)) = ((Value.ref b :: As).map (m_v G)) := by simp [m_v, m_ad_at G hb hI.2]
  have hpre : PreS s H (m_Pc G (.ref b :: As) h mc) (Value.ref (G.1 + b) :: As.map (m_v G)) := ⟨m_blind G _ h _, by rw [hargs]; exact m_pre hC.2.2.2.2.2.1 hI hS (fun h0 => hsz (by omega)) hC.2.2.2.2.2.2.2.2.2⟩
  have hroom : d + 1 ≤ (m_R K.2.2.2.2.2.1 K.2.2.2.2.2.2.1 K.2.2.2.2.2.2.2).frames ∧ 8 + (nL + 11) + 100 * d ≤ (m_R K.2.2.2.2.2.1 K.2.2.2.2.2.2.1 K.2.2.2.2.2.2.2).locals := by
    rw [hdep]; simp only [m_R]; have := hy.1.2.2.2; omega
  rcases hl with hl | hl
  · exact m_after (z := z) (h := h) (Q' := Q') (mc := mc) (ms := ms) (va_runI (n := n) (As := As.map (m_v G)) (b := G.1 + b) (rest := m_st G rest) ⟨hC.1, hC.2.1, hC.2.2.1, hC.2.2.2.1, hC.2.2.2.2.1⟩ (hM l G)
      ⟨m_callB hy.1 hC.2.2.2.2.1 hl hroom, hy.2.1, hC.2.2.2.2.1 _ hy.2.2⟩ hpre rfl (by simp [hnA]) hlv.1 rfl (lv_room (by rw [hcw]; exact hw)) hd hc) hS (fun r h' H1 locs1 hq hI1 hS1 hn1 => kk r h' hq p l e s m args below meth c G H1 locs1 ls n0 hC hI1 hS1 hlv hz (by rw [hn1, hn]; omega))
  · exact m_after (z := z) (h := h) (Q' := Q') (mc := mc) (ms := ms) (va_runIN (n := n) (As := As.map (m_v G)) (b := G.1 + b) (rest := m_st G rest) ⟨hC.1, hC.2.1, hC.2.2.1, hC.2.2.2.1, hC.2.2.2.2.1⟩ (hM l G)
      ⟨m_nestB hC.2.2.2.2.2.1 hy.1 hC.2.2.2.2.1 hl hroom, hy.2.1, hC.2.2.2.2.1 _ hy.2.2⟩ hpre rfl (by simp [hnA]) hlv.1 rfl (lv_room (by rw [hcw]; exact hw)) hd hc) hS (fun r h' H1 locs1 hq hI1 hS1 hn1 => kk r h' hq p l e s m args below meth c G H1 locs1 ls n0 hC hI1 hS1 hlv hz (by rw [hn1, hn]; omega))
end MCL
