/-! worlds made piece by piece: a block B behind the cells below a -/
def ew0 : m_H := (fun _ _ => 0, fun _ _ => 0, fun _ _ => none, fun _ => (0, 0), 0)
def exw (h : m_H) (a : Nat) (B : m_H) : m_H := (fun b k => if b < a then h.1 b k else B.1 (b - a) k, fun b k => if b < a then h.2.1 b k else B.2.1 (b - a) k, fun b k => if b < a then h.2.2.1 b k else B.2.2.1 (b - a) k, fun b => if b < a then h.2.2.2.1 b else B.2.2.2.1 (b - a), a + B.2.2.2.2)
theorem m_H_ext {x y : m_H} (h1 : ∀ a k, x.1 a k = y.1 a k) (h2 : ∀ a k, x.2.1 a k = y.2.1 a k) (h3 : ∀ a k, x.2.2.1 a k = y.2.2.1 a k) (h4 : ∀ a, x.2.2.2.1 a = y.2.2.2.1 a) (h5 : x.2.2.2.2 = y.2.2.2.2) : x = y := by
  obtain ⟨x1, x2, x3, x4, x5⟩ := x
  obtain ⟨y1, y2, y3, y4, y5⟩ := y
  have e1 : x1 = y1 := funext fun a => funext fun k => h1 a k
  have e2 : x2 = y2 := funext fun a => funext fun k => h2 a k
  have e3 : x3 = y3 := funext fun a => funext fun k => h3 a k
  have e4 : x4 = y4 := funext fun a => h4 a
  have e5 : x5 = y5 := h5
  rw [e1, e2, e3, e4, e5]
theorem if_sw {α : Type} {a b n : Nat} {x y z : α} : (if b = a + n then x else if b < a then y else z) = (if b < a then y else if b - a = n then x else z) := by
  by_cases c : b < a
  · rw [if_pos c, if_pos c, if_neg (by omega)]
  · rw [if_neg c, if_neg c]
    by_cases e : b = a + n
    · rw [if_pos e, if_pos (by omega)]
    · rw [if_neg e, if_neg (by omega)]
theorem if_sw2 {α : Type} {a b i k k' : Nat} {x y z : α} : (if b = a + i ∧ k = k' then x else if b < a then y else z) = (if b < a then y else if b - a = i ∧ k = k' then x else z) := by
  by_cases c : b < a
  · rw [if_pos c, if_pos c, if_neg (by omega)]
  · rw [if_neg c, if_neg c]
    by_cases e : b = a + i ∧ k = k'
    · rw [if_pos e, if_pos (by omega)]
    · rw [if_neg e, if_neg (by omega)]
theorem if_sw3 {α : Type} {a b i : Nat} {x y : α} {z : Nat → α} : (if b < a + i then (if b < a then x else y) else z (b - (a + i))) = (if b < a then x else if b - a < i then y else z (b - a - i)) := by
  by_cases c : b < a
  · rw [if_pos (by omega), if_pos c, if_pos c]
  · rw [if_neg c, if_neg c]
    by_cases e : b < a + i
    · rw [if_pos e, if_pos (by omega)]
    · rw [if_neg e, if_neg (by omega), Nat.sub_sub]
section EXW
variable {h B C : m_H} {a i j k t l : Nat}
theorem ex_nw : m_nw (exw h a B) t l = exw h a (m_nw B t l) := m_H_ext (fun _ _ => if_sw) (fun _ _ => if_sw) (fun _ _ => if_sw) (fun _ => if_sw) rfl
theorem ex_si {v : Int32} : m_si (exw h a B) (a + i) k v = exw h a (m_si B i k v) := m_H_ext (fun _ _ => if_sw2) (fun _ _ => rfl) (fun _ _ => rfl) (fun _ => rfl) rfl
theorem ex_sj {v : Int64} : m_sj (exw h a B) (a + i) k v = exw h a (m_sj B i k v) := m_H_ext (fun _ _ => rfl) (fun _ _ => if_sw2) (fun _ _ => rfl) (fun _ => rfl) rfl
theorem ex_sr {v : Option Nat} : m_sr (exw h a B) (a + i) k v = exw h a (m_sr B i k v) := m_H_ext (fun _ _ => rfl) (fun _ _ => rfl) (fun _ _ => if_sw2) (fun _ => rfl) rfl
theorem ex_ex : exw (exw h a B) (a + i) C = exw h a (exw B i C) :=
  m_H_ext (fun b k => if_sw3 (z := fun b => C.1 b k)) (fun b k => if_sw3 (z := fun b => C.2.1 b k)) (fun b k => if_sw3 (z := fun b => C.2.2.1 b k)) (fun b => if_sw3 (z := fun b => C.2.2.2.1 b)) (Nat.add_assoc ..)
theorem ex_cw : ∀ i, cwH (exw h a B) i = exw h a (cwH B i) := by
  intro i
  induction i with
  | zero => exact ex_nw
  | succ i ih =>
    unfold cwH
    by_cases c : sC 0 i = 32
    · rw [if_pos c, if_pos c, ih]; exact ex_sj
    · rw [if_neg c, if_neg c]; exact ih
theorem ex_O {ci : Nat} (o : m_O B j ci) : m_O (exw h a B) (a + j) ci := by
  refine ⟨Nat.add_lt_add_left o.1 a, ?_⟩
  show (if a + j < a then _ else _ : Nat × Nat).1 = ci
  rw [if_neg (by omega), Nat.add_sub_cancel_left]; exact o.2
theorem ex_A {n : Nat} (o : m_Ar B j t n) : m_Ar (exw h a B) (a + j) t n := by
  refine ⟨Nat.add_lt_add_left o.1 a, ?_⟩
  show (if a + j < a then _ else _ : Nat × Nat) = _
  rw [if_neg (by omega), Nat.add_sub_cancel_left]; exact o.2
theorem ex_r : (exw h a B).2.2.1 (a + j) k = B.2.2.1 j k := by
  show (if a + j < a then _ else _ : Option Nat) = _
  rw [if_neg (by omega), Nat.add_sub_cancel_left]
theorem ex_O2 {ci : Nat} (hj : j < a) (o : m_O B j ci) : m_O (exw B a C) j ci := by
  refine ⟨Nat.lt_of_lt_of_le hj (Nat.le_add_right _ _), ?_⟩
  show (if j < a then _ else _ : Nat × Nat).1 = ci
  rw [if_pos hj]; exact o.2
theorem ex_r2 (hj : j < a) : (exw B a C).2.2.1 j k = B.2.2.1 j k := if_pos hj
theorem nw_O {ci : Nat} (o : m_O B j ci) : m_O (m_nw B t l) j ci := by
  refine ⟨Nat.lt_succ_of_lt o.1, ?_⟩
  show (if j = _ then _ else _ : Nat × Nat).1 = ci
  rw [if_neg (by have := o.1; omega)]; exact o.2
end EXW
/-- another picture of the same cells -/
theorem mw_cong {K : m_K} {pc : Nat} {z : Nat × Nat} {lv : List (Nat × Value)} {st : List Value} {h h' : m_H} {Q : Option Value → m_H → Prop} (hn : h'.2.2.2.2 = h.2.2.2.2) (hE : ∀ (G : m_G) (i : Nat), i < h.2.2.2.2 → m_E G h' i = m_E G h i) (kk : MW K pc z lv st h' Q) : MW K pc z lv st h Q := by
  intro p l e s m args below meth c G H locs ls n0 hC hI hS hlv hz hn0
  have hw : m_ws G h' = m_ws G h := by
    unfold m_ws
    rw [hn]
    exact List.map_congr_left (fun i hi => by rw [hE G i (List.mem_range.mp hi)])
  exact kk p l e s m args below meth c G H locs ls n0 hC ⟨by rw [hw]; exact hI.1, by rw [hn]; exact hI.2⟩ hS hlv hz (by rw [hn]; exact hn0)
theorem m_E_at {G : m_G} {h h' : m_H} {i : Nat} (h1 : h'.1 i = h.1 i) (h2 : h'.2.1 i = h.2.1 i) (h3 : h'.2.2.1 i = h.2.2.1 i) (h4 : h'.2.2.2.1 i = h.2.2.2.1 i) : m_E G h' i = m_E G h i := by
  have hf : ∀ ci k, m_f h' ci i k = m_f h ci i k := by
    intro ci k
    simp only [m_f, h1, h2, h3]
  simp only [m_E, h1, h2, h3, h4, hf]
section KE
variable {K : m_K} {pc : Nat} {z z' : Nat × Nat} {lv : List (Nat × Value)} {rest : List Value} {h B : m_H} {a c0 : Nat} {Q : Option Value → m_H → Prop}
theorem ke_newa {at0 : ArrayType} {t : Nat} {n : Int32} {N : Nat} (i : Nat) (hN : n.toNatClampNeg = N) (hd : decode K.2.1 pc = .ok (.newarray at0, 2)) (hw : Cond.arrayClass (newarray.typeOf at0) ∈ m_tb) (ht : ∀ G : m_G, (m_tys G)[t]? = some (G.2.2.1 t, newarray.typeOf at0)) (ht4 : t < 4) (h0 : ¬ n < 0) (hb : N * componentBytes (newarray.typeOf at0) ≤ 536870912) (hr : z.1 + 1 ≤ K.2.2.2.2.2.2.1 ∧ z.2 + N ≤ K.2.2.2.2.2.2.2) (hi : B.2.2.2.2 = i) (hm : a + i < 1000000)
    (hdef : defaultValue (newarray.typeOf at0) = if t = 1 then .long 0 else .int 0) (hz : (z.1 + 1, z.2 + N) = z') (o : m_O B 0 c0)
    (kk : m_O (m_nw B (100 + t) N) 0 c0 → MW K (pc + 2) z' lv (.ref (a + i) :: rest) (exw h a (m_nw B (100 + t) N)) Q) : MW K pc z lv (.int n :: rest) (exw h a B) Q := by
  subst hi hz
  refine m_newa hN hd hw ht ht4 h0 hb hr hm hdef ?_
  rw [ex_nw]
  exact kk (nw_O o)
theorem ke_newR {idx : Nat} {t ci : Nat} {n : Int32} {N : Nat} (i : Nat) (hN : n.toNatClampNeg = N) (htc : (t = 4 ∧ ci = 8) ∨ (t = 5 ∧ ci = 4)) (hd : decode K.2.1 pc = .ok (.anewarray idx, 3)) (hl : Cond.classLink K.1 idx (m_nm ci) ∈ m_tb) (h0 : ¬ n < 0) (hb : N * 4 ≤ 536870912) (hr : z.1 + 1 ≤ K.2.2.2.2.2.2.1 ∧ z.2 + N ≤ K.2.2.2.2.2.2.2) (hi : B.2.2.2.2 = i) (hm : a + i < 1000000) (hz : (z.1 + 1, z.2 + N) = z') (o : m_O B 0 c0)
    (kk : m_O (m_nw B (100 + t) N) 0 c0 → MW K (pc + 3) z' lv (.ref (a + i) :: rest) (exw h a (m_nw B (100 + t) N)) Q) : MW K pc z lv (.int n :: rest) (exw h a B) Q := by
  subst hi hz
  refine mw_newR hN htc hd hl h0 hb hr hm ?_
  rw [ex_nw]
  exact kk (nw_O o)
theorem ke_new {idx : Nat} (ci i : Nat) (hd : decode K.2.1 pc = .ok (.new idx, 3)) (hl : Cond.classLink K.1 idx (m_nm ci) ∈ m_tb) (hin : Cond.instantiable (m_nm ci) (m_fn ci) ∈ m_tb) (hini : Cond.initialized (m_nm ci) ∈ m_tb) (hc : ci < 13) (hr : z.1 + 1 ≤ K.2.2.2.2.2.2.1 ∧ z.2 + m_fn ci ≤ K.2.2.2.2.2.2.2) (hi : B.2.2.2.2 = i) (hm : a + i < 1000000) (hz : (z.1 + 1, z.2 + m_fn ci) = z')
    (kk : MW K (pc + 3) z' lv (.ref (a + i) :: rest) (exw (exw h a B) (a + i) (m_nw ew0 ci 0)) Q) : MW K pc z lv rest (exw h a B) Q := by
  subst hi hz
  refine mw_new ci hd hl hin hini hc hr hm ?_
  refine mw_cong (h' := exw (exw h a B) (a + B.2.2.2.2) (m_nw ew0 ci 0)) rfl (fun G j hj => ?_) kk
  have hj' : j < a + B.2.2.2.2 + 1 := hj
  have e : ∀ {α : Type} {x y z : α}, (j = a + B.2.2.2.2 → x = y) → (if j < a + B.2.2.2.2 then z else x) = (if j = a + B.2.2.2.2 then y else z) := by
    intro α x y z q
    by_cases c : j = a + B.2.2.2.2
    · rw [if_pos c, if_neg (by omega)]; exact q c
    · rw [if_neg c, if_pos (by omega)]
  refine m_E_at (funext fun k => ?_) (funext fun k => ?_) (funext fun k => ?_) ?_
  · exact e (fun c => if_pos (by rw [c, Nat.sub_self]; rfl))
  · exact e (fun c => if_pos (by rw [c, Nat.sub_self]; rfl))
  · exact e (fun c => if_pos (by rw [c, Nat.sub_self]; rfl))
  · exact e (fun c => if_pos (by rw [c, Nat.sub_self]; rfl))
theorem ke_init {y : MethodName} {cc : ByteArray} {nL n d mc ms b idx : Nat} {C1 C : m_H} (i : Nat) (As : List Value) (hM : MC y cc nL none d mc ms (.ref (a + i) :: As) (exw (exw h a B) (a + i) C1) (m_rn (exw (exw h a B) (a + i) C))) (hy : m_Y y cc nL none n ∧ y.name = "<init>" ∧ Cond.instanceMethod y ∈ m_tb) (hd : decode K.2.1 pc = .ok (.invokespecial idx, 3)) (hl : Cond.methodLink K.1 idx y ∈ m_tb ∨ (K.1, idx, y) ∈ m_nest) (h1 : 0 < C1.2.2.2.2) (hb : b = a + i) (hdep : K.2.2.2.2.2.1 = d + 1) (hnA : As.length = n) (hw : (rest.map fun v => v.category).sum ≤ 8) (hc : z.1 + mc ≤ K.2.2.2.2.2.2.1 ∧ z.2 + ms ≤ K.2.2.2.2.2.2.2) (hz : (z.1 + mc, z.2 + ms) = z') (o : m_O B 0 c0) (hi : 0 < i)
    (kk : m_O (exw B i C) 0 c0 → MW K (pc + 3) z' lv rest (exw h a (exw B i C)) Q) : MW K pc z lv (As.reverse ++ .ref b :: rest) (exw (exw h a B) (a + i) C1) Q := by
  subst hz hb
  refine mw_callI hM hy hd hl (show a + i < a + i + _ by omega) hdep hnA hw hc (fun r h' q => ?_)
  obtain ⟨rfl, rfl⟩ := q
  rw [ex_ex]
  exact kk (ex_O2 hi o)
theorem ke_putr {b idx : Nat} (ci k : Nat) (hd : decode K.2.1 pc = .ok (.putfield idx, 3)) (hl : Cond.fieldLink K.1 idx (m_T ci k).1 (m_T ci k).2.1 (m_T ci k).2.2.1 ∈ m_tb) (hc : ci < 13) (hk : k < m_fn ci) (ht : m_tg (m_ty ci k) = 2) (hfin : (m_T ci k).2.2.2 = false ∨ ((m_T ci k).2.2.2 = true ∧ K.2.2.2.2.1 = "<init>" ∧ (m_T ci k).1 = K.1)) (o : m_O B 0 ci) (kk : m_O (m_sr B 0 k (some b)) 0 ci → MW K (pc + 3) z lv rest (exw h a (m_sr B 0 k (some b))) Q) : MW K pc z lv (.ref b :: .ref a :: rest) (exw h a B) Q := by
  refine mw_putr ci k hd hl hc hk ht hfin (ex_O (j := 0) o) ?_
  rw [show m_sr (exw h a B) a k (some b) = exw h a (m_sr B 0 k (some b)) from ex_sr (i := 0)]
  exact kk o
theorem ke_puti {idx : Nat} {x : Int32} (ci k : Nat) (hd : decode K.2.1 pc = .ok (.putfield idx, 3)) (hl : Cond.fieldLink K.1 idx (m_T ci k).1 (m_T ci k).2.1 (m_T ci k).2.2.1 ∈ m_tb) (hc : ci < 13) (hk : k < m_fn ci) (ht : m_tg (m_ty ci k) = 0) (hfin : (m_T ci k).2.2.2 = false) (hok : narrow (m_ty ci k) (.int x) = .int x ∧ fits (m_ty ci k) (.int x) = true) (o : m_O B 0 ci) (kk : m_O (m_si B 0 k x) 0 ci → MW K (pc + 3) z lv rest (exw h a (m_si B 0 k x)) Q) : MW K pc z lv (.int x :: .ref a :: rest) (exw h a B) Q := by
  refine mw_puti ci k hd hl hc hk ht hfin (ex_O (j := 0) o) hok ?_
  rw [show m_si (exw h a B) a k x = exw h a (m_si B 0 k x) from ex_si (i := 0)]
  exact kk o
theorem ke_putl {idx : Nat} {x : Int64} (ci k : Nat) (hd : decode K.2.1 pc = .ok (.putfield idx, 3)) (hl : Cond.fieldLink K.1 idx (m_T ci k).1 (m_T ci k).2.1 (m_T ci k).2.2.1 ∈ m_tb) (hc : ci < 13) (hk : k < m_fn ci) (ht : m_ty ci k = .long) (hfin : (m_T ci k).2.2.2 = false) (o : m_O B 0 ci) (kk : m_O (m_sj B 0 k x) 0 ci → MW K (pc + 3) z lv rest (exw h a (m_sj B 0 k x)) Q) : MW K pc z lv (.long x :: .ref a :: rest) (exw h a B) Q := by
  refine mw_putl ci k hd hl hc hk ht hfin (ex_O (j := 0) o) ?_
  rw [show m_sj (exw h a B) a k x = exw h a (m_sj B 0 k x) from ex_sj (i := 0)]
  exact kk o
theorem ke_getr {b idx : Nat} (ci k : Nat) (hd : decode K.2.1 pc = .ok (.getfield idx, 3)) (hl : Cond.fieldLink K.1 idx (m_T ci k).1 (m_T ci k).2.1 (m_T ci k).2.2.1 ∈ m_tb) (hc : ci < 13) (hk : k < m_fn ci) (ht : m_tg (m_ty ci k) = 2) (o : m_O B 0 ci) (hr : B.2.2.1 0 k = some b) (kk : MW K (pc + 3) z lv (.ref b :: rest) (exw h a B) Q) : MW K pc z lv (.ref a :: rest) (exw h a B) Q :=
  mw_getr ci k hd hl hc hk ht (ex_O (j := 0) o) ((ex_r (j := 0)).trans hr) kk
theorem ke_getr2 {b idx i : Nat} {C : m_H} (ci k : Nat) (hd : decode K.2.1 pc = .ok (.getfield idx, 3)) (hl : Cond.fieldLink K.1 idx (m_T ci k).1 (m_T ci k).2.1 (m_T ci k).2.2.1 ∈ m_tb) (hc : ci < 13) (hk : k < m_fn ci) (ht : m_tg (m_ty ci k) = 2) (o : m_O B 0 ci) (hr : B.2.2.1 0 k = some b) (hi : 0 < i) (kk : MW K (pc + 3) z lv (.ref b :: rest) (exw (exw h a B) (a + i) C) Q) : MW K pc z lv (.ref a :: rest) (exw (exw h a B) (a + i) C) Q :=
  mw_getr ci k hd hl hc hk ht (ex_O2 (by omega) (ex_O (j := 0) o)) ((ex_r2 (by omega)).trans ((ex_r (j := 0)).trans hr)) kk
theorem ke_aast {t b ci n : Nat} {i : Int32} (j k b0 : Nat) (ht : (t = 4 ∧ ci = 8) ∨ (t = 5 ∧ ci = 4)) (hd : decode K.2.1 pc = .ok (.aastore, 1)) (ha : m_Ar B j t n) (hk : k < n) (hn : n < 2 ^ 31) (hi : i = nI k) (hb0 : b = a + b0) (hb : m_O B b0 ci) (o : m_O B 0 c0) (kk : m_O (m_sr B j k (some b)) 0 c0 → MW K (pc + 1) z lv rest (exw h a (m_sr B j k (some b))) Q) : MW K pc z lv (.ref b :: .int i :: .ref (a + j) :: rest) (exw h a B) Q := by
  subst hi
  refine mw_aast ht hd (ex_A ha) (sx_in hk hn) (hb0 ▸ ex_O hb) ?_
  rw [nI_clamp (by omega), ex_sr]
  exact kk o
theorem ke_iast {n : Nat} {i x : Int32} (j k : Nat) (hd : decode K.2.1 pc = .ok (.iastore, 1)) (ha : m_Ar B j 0 n) (hk : k < n) (hn : n < 2 ^ 31) (hi : i = nI k) (o : m_O B 0 c0) (kk : m_O (m_si B j k x) 0 c0 → MW K (pc + 1) z lv rest (exw h a (m_si B j k x)) Q) : MW K pc z lv (.int x :: .int i :: .ref (a + j) :: rest) (exw h a B) Q := by
  subst hi
  refine mw_iast hd (ex_A ha) (sx_in hk hn) ?_
  rw [nI_clamp (by omega), ex_si]
  exact kk o
theorem ke_last {n : Nat} {i : Int32} {x : Int64} (j k : Nat) (hd : decode K.2.1 pc = .ok (.lastore, 1)) (ha : m_Ar B j 1 n) (hk : k < n) (hn : n < 2 ^ 31) (hi : i = nI k) (o : m_O B 0 c0) (kk : m_O (m_sj B j k x) 0 c0 → MW K (pc + 1) z lv rest (exw h a (m_sj B j k x)) Q) : MW K pc z lv (.long x :: .int i :: .ref (a + j) :: rest) (exw h a B) Q := by
  subst hi
  refine mw_last hd (ex_A ha) (sx_in hk hn) ?_
  rw [nI_clamp (by omega), ex_sj]
  exact kk o
theorem ke_alen {n t : Nat} (j : Nat) (ht : t < 6) (hd : decode K.2.1 pc = .ok (.arraylength, 1)) (ha : m_Ar B j t n) (kk : MW K (pc + 1) z lv (.int (nI n) :: rest) (exw h a B) Q) : MW K pc z lv (.ref (a + j) :: rest) (exw h a B) Q := mw_alen ht hd (ex_A ha) kk
end KE
