def m_E (G : m_G) (h : m_H) (a : Nat) : va_E :=
  if (h.2.2.2.1 a).1 < 100 then .inr ((h.2.2.2.1 a).1, (List.range (m_fn (h.2.2.2.1 a).1)).map (fun k => m_v G (m_f h (h.2.2.2.1 a).1 a k)))
  else .inl (G.2.2.1 ((h.2.2.2.1 a).1 - 100), (h.2.2.2.1 a).2,
    if (h.2.2.2.1 a).1 = 101 then .inr (.inl (h.2.1 a)) else if (h.2.2.2.1 a).1 < 104 then .inl (h.1 a) else .inr (.inr (.inr (.inr (fun j => (h.2.2.1 a j).map (m_ad G))))))
def m_ws (G : m_G) (h : m_H) : va_W := (List.range h.2.2.2.2).map (fun i => (G.1 + i, m_E G h i))
def m_tys (G : m_G) : List (ClassId × FieldType) := [(G.2.2.1 0, .int), (G.2.2.1 1, .long), (G.2.2.1 2, .byte), (G.2.2.1 3, .boolean), (G.2.2.1 4, .object RX8), (G.2.2.1 5, .object RX4)]
def m_A (G : m_G) : Nat → Prop := fun q => G.1 ≤ q
/-- the world lies in the heap -/
def m_In (G : m_G) (h : m_H) (H : Heap) : Prop := va_P G.2.1 vwCl (m_ws G h) H ∧ h.2.2.2.2 ≤ 1000000
theorem m_ws_at (G : m_G) (h : m_H) {i : Nat} (hi : i < h.2.2.2.2) : (m_ws G h)[i]? = some (G.1 + i, m_E G h i) := by
  simp [m_ws, hi]
theorem m_ws_of (G : m_G) (h : m_H) {i : Nat} {q : Nat × va_E} (hq : (m_ws G h)[i]? = some q) : i < h.2.2.2.2 ∧ q = (G.1 + i, m_E G h i) := by
  have hi : i < h.2.2.2.2 := by
    have := (List.getElem?_eq_some_iff.mp hq).1
    simpa [m_ws] using this
  rw [m_ws_at G h hi] at hq
  exact ⟨hi, (Option.some.inj hq).symm⟩
theorem m_D (G : m_G) (h : m_H) : va_D (m_A G) (m_ws G h) := by
  refine ⟨fun i j p q hp hq e => ?_, fun k q hq => ?_⟩
  · obtain ⟨-, rfl⟩ := m_ws_of G h hp
    obtain ⟨-, rfl⟩ := m_ws_of G h hq
    exact Nat.add_left_cancel e
  · obtain ⟨-, rfl⟩ := m_ws_of G h hq
    exact Nat.le_add_right _ _
theorem m_ad_at (G : m_G) {i n : Nat} (h : i < n) (hn : n ≤ 1000000) : m_ad G i = G.1 + i := by
  have : i < 1000000 := Nat.lt_of_lt_of_le h hn
  simp [m_ad, this]
def m_strs : List (String × Nat × String × Nat) := [(RX10, 55, "section points track signal route lock train hold over normal reverse down up set back throw fail clear full mend tick or and not out crashed waiting in using ticks waited number ", 1000000), (RX9, 34, " out", 1000001), (RX9, 40, " in ", 1000002), (RX9, 45, " crashed", 1000003), (RX9, 50, " waits", 1000004), (RX11, 213, "no such train", 1000005), (RX11, 239, "no such question", 1000006), (RX11, 327, "no such number", 1000007)]
def m_len : List Nat := [179, 4, 4, 8, 6, 13, 16, 14]
def m_byt : List (List Int32) := [[115, 101, 99, 116, 105, 111, 110, 32, 112, 111, 105, 110, 116, 115, 32, 116, 114, 97, 99, 107, 32, 115, 105, 103, 110, 97, 108, 32, 114, 111, 117, 116, 101, 32, 108, 111, 99, 107, 32, 116, 114, 97, 105, 110, 32, 104, 111, 108, 100, 32, 111, 118, 101, 114, 32, 110, 111, 114, 109, 97, 108, 32, 114, 101, 118, 101, 114, 115, 101, 32, 100, 111, 119, 110, 32, 117, 112, 32, 115, 101, 116, 32, 98, 97, 99, 107, 32, 116, 104, 114, 111, 119, 32, 102, 97, 105, 108, 32, 99, 108, 101, 97, 114, 32, 102, 117, 108, 108, 32, 109, 101, 110, 100, 32, 116, 105, 99, 107, 32, 111, 114, 32, 97, 110, 100, 32, 110, 111, 116, 32, 111, 117, 116, 32, 99, 114, 97, 115, 104, 101, 100, 32, 119, 97, 105, 116, 105, 110, 103, 32, 105, 110, 32, 117, 115, 105, 110, 103, 32, 116, 105, 99, 107, 115, 32, 119, 97, 105, 116, 101, 100, 32, 110, 117, 109, 98, 101, 114, 32], [32, 111, 117, 116], [32, 105, 110, 32], [32, 99, 114, 97, 115, 104, 101, 100], [32, 119, 97, 105, 116, 115], [110, 111, 32, 115, 117, 99, 104, 32, 116, 114, 97, 105, 110], [110, 111, 32, 115, 117, 99, 104, 32, 113, 117, 101, 115, 116, 105, 111, 110], [110, 111, 32, 115, 117, 99, 104, 32, 110, 117, 109, 98, 101, 114]]
def m_nest : List (String × Nat × MethodName) := [(RX11, 9, yX10_init), (RX11, 25, yX6_init), (RX11, 51, yX0_init), (RX11, 58, yX7_init), (RX11, 74, yX1_init), (RX11, 81, yX2_init), (RX11, 88, yX9_init), (RX4, 18, yX7_init), (RX5, 79, yX11_copyRow), (RX8, 67, yX11_copyRow), (RX0, 75, yX11_sortOfAct), (RX7, 35, yX11_copyRow)]
/-- what the tables and what lies below the world say: kept behind every call -/
def m_KK (G : m_G) (U : State) : Prop := va_K G.2.1 vwCl (m_tys G) U ∧ va_AO RX8 U ∧ va_AO RX4 U ∧ (∀ q ∈ m_nest, va_Nw (.methodLinkNest q.1 q.2.1 q.2.2 RX11) U) ∧ (∀ q ∈ m_strs, vk_R q.1 q.2.1 q.2.2.1 (G.2.2.2 q.2.2.2) U) ∧ (vk_S 8 m_len m_byt (fun i => G.2.2.2 (1000000 + i)) (fun i => G.2.2.2 (1100000 + i)) (m_A G) U U.heap ∧ (va_Z "jdk/internal/util/Preconditions" "SIOOBE_FORMATTER" "Ljava/util/function/BiFunction;" .null (m_A G) U U.heap ∨ va_Z "jdk/internal/util/Preconditions" "SIOOBE_FORMATTER" "Ljava/util/function/BiFunction;" (.ref (G.2.2.2 1200000)) (m_A G) U U.heap)) ∧ va_Z "java/lang/String" "COMPACT_STRINGS" "Z" (.int 1) (m_A G) U U.heap
theorem m_KK.go {G : m_G} {s U : State} (h : m_KK G s) (hW : s.WarmedH U.vm) (hq : ∀ a : Nat, a < s.heap.size → ¬ m_A G a → U.heap[a]? = s.heap[a]?) : m_KK G U := by
  obtain ⟨h1, h2, h3, h4, h5, ⟨h6, h8⟩, h7⟩ := h
  exact ⟨h1.moved hW.alike, h2.moved hW.alike, h3.moved hW.alike, fun q m => (h4 q m).warmM hW, fun q m => (h5 q m).warm hW, ⟨(h6.moved hW.alike).kept hq, h8.elim (fun z => Or.inl ((z.moved hW.alike).kept hq)) (fun z => Or.inr ((z.moved hW.alike).kept hq))⟩, (h7.moved hW.alike).kept hq⟩
theorem m_KK.same {G : m_G} {s U : State} (h : m_KK G s) (hv : U.vm = s.vm) (hq : U.heap = s.heap) : m_KK G U := by
  obtain ⟨h1, h2, h3, h4, h5, ⟨h6, h8⟩, h7⟩ := h
  have ha : s.vm.Alike U.vm := by rw [hv]; exact Vm.Alike.refl s.vm
  exact ⟨h1.moved ha, h2.moved ha, h3.moved ha, fun q m => (h4 q m).same rfl hv.symm, fun q m => (h5 q m).same hv, ⟨by rw [hq]; exact h6.moved ha, by rw [hq]; exact h8.elim (fun z => Or.inl (z.moved ha)) (fun z => Or.inr (z.moved ha))⟩, by rw [hq]; exact h7.moved ha⟩
/-- the method's own: sort, bytes, locals, what it returns, its name, depth, cells and slots that it makes -/
abbrev m_K : Type := String × ByteArray × Nat × Option FieldType × String × Nat × Nat × Nat
def m_R (d mc ms : Nat) : Room := { frames := d, cells := mc, slots := ms, locals := 100 * d }
def m_C (p : Program) (s : State) (m : MethodId) (args : Array Value) (meth : Method) (c : Code) (K : m_K) (G : m_G) : Prop :=
  p.tables.exec = Jvm.exec ∧ c.code = K.2.1 ∧ c.maxLocals = K.2.2.1 ∧ s.vm.findClass K.1 = some m.cls ∧ (∀ w ∈ m_tb, w.before args s = true) ∧ m_KK G s ∧ meth.sig.returnType = K.2.2.2.1 ∧ meth.locks = false ∧ meth.name = K.2.2.2.2.1 ∧ G.1 ≤ s.heap.size
/-- how it ends: the answer, and the world behind it -/
def m_Q (G : m_G) (n0 mc : Nat) (Q : Option Value → m_H → Prop) : Array Value → State → Outcome → State → Prop := fun _ st oc t =>
  (∃ (r : Option Value) (h' : m_H), Q r h' ∧ oc = .returned (r.map (m_v G)) ∧ m_In G h' t.heap ∧ h'.2.2.2.2 = n0 + mc) ∧ va_F (m_A G) st t
/-- the machine stands at pc of the method K, z cells and slots made so far, locals lv, stack st, the world h; it ends with Q -/
def MW (K : m_K) (pc : Nat) (z : Nat × Nat) (lv : List (Nat × Value)) (st : List Value) (h : m_H) (Q : Option Value → m_H → Prop) : Prop :=
  ∀ (p : Program) (l : Launch) (e : Env) (s : State) (m : MethodId) (args : Array Value) (below : List Frame) (meth : Method) (c : Code) (G : m_G) (H : Heap) (locs : List Loc) (ls : Array Slot) (n0 : Nat),
    m_C p s m args meth c K G → m_In G h H → va_S (m_A G) s.heap H locs → lv_has ls K.2.2.1 (m_lv G lv) → (0 < K.2.2.2.2.2.2.1 → s.heap.size = G.1 + n0) → h.2.2.2.2 = n0 + z.1 →
    W p l e (m_R K.2.2.2.2.2.1 K.2.2.2.2.2.2.1 K.2.2.2.2.2.2.2) s m args below meth c H locs z.1 z.2 (MQ below (m_Q G n0 K.2.2.2.2.2.2.1 Q) args s K.2.2.2.2.2.2.1 K.2.2.2.2.2.2.2 (m_A G)) (F0 m pc ls (m_st G st))
def m_Pc (G : m_G) (args : List Value) (h : m_H) (mc : Nat) : Array Value → State → Prop := va_Pc (args.map (m_v G)) (fun U => m_In G h U.heap ∧ m_KK G U ∧ (0 < mc → U.heap.size = G.1 + h.2.2.2.2) ∧ G.1 ≤ U.heap.size)
/-- the contract of a method y at the world h -/
def MC (y : MethodName) (cc : ByteArray) (nL : Nat) (ret : Option FieldType) (d mc ms : Nat) (args : List Value) (h : m_H) (Q : Option Value → m_H → Prop) : Prop :=
  ∀ (l : Launch) (G : m_G), Met l y (Cond.code y cc nL ret :: m_tb) (m_R d mc ms) (m_Pc G args h mc) (m_Q G h.2.2.2.2 mc Q) mc ms (m_A G)
theorem m_lv_args (G : m_G) : ∀ (n : Nat) (vs : List Value), lv_args n (vs.map (m_v G)) = m_lv G (lv_args n vs) := by
  intro n vs
  induction vs generalizing n with
  | nil => rfl
  | cons v vs ih =>
    have hc : (m_v G v).category = v.category := by cases v <;> rfl
    simp only [List.map_cons, lv_args, hc, ih]
    rfl
theorem m_cat (G : m_G) (v : Value) : (m_v G v).category = v.category := by cases v <;> rfl
theorem m_sl (G : m_G) (vs : List Value) : (lg_sl (vs.map (m_v G))).length = (lg_sl vs).length := by
  induction vs with
  | nil => rfl
  | cons v vs ih =>
    cases v <;> simp_all [lg_sl, m_v, Value.category]
/-- a contract out of a walk -/
theorem mc_of {y : MethodName} {cc : ByteArray} {nL : Nat} {ret : Option FieldType} {d mc ms : Nat} {args : List Value} {h : m_H} {Q : Option Value → m_H → Prop} (hy : plainName y.cls = true) (hn : (lg_sl args).length ≤ nL)
    (k : MW (y.cls, cc, nL, ret, y.name, d, mc, ms) 0 (0, 0) (lv_args 0 args) [] h Q) : MC y cc nL ret d mc ms args h Q := by
  intro l G
  refine Met.ofW (cc := cc) (maxL := nL) (ret := ret) hy rfl ?_
  intro p e s m as below meth c s₁ B hml hv
  obtain ⟨rfl, hIn, hK, hsz, hge⟩ := hv
  have hts := atoms_spec (ws := Cond.code y cc nL ret :: m_tb) B.pre
  have hl := lv_entry (args.map (m_v G)) (n := nL) (by rw [m_sl]; exact hn)
  rw [lg_entry_eq]
  generalize (lg_sl (args.map (m_v G)) ++ List.replicate (nL - (lg_sl (args.map (m_v G))).length) Slot.unset).toArray = ls at hl ⊢
  rw [m_lv_args] at hl
  exact k p l e s m _ below meth c G s.heap [] ls h.2.2.2.2 ⟨B.exec, B.bytes, hml, findClass_of_methodNamed B.named, fun w hw => hts w (List.mem_cons_of_mem _ hw), hK, B.returns, B.notSynchronized, (name_of_methodNamed B.named B.method).1, hge⟩ hIn va_S.rf hl hsz rfl
