def m_nw (h : m_H) (t len : Nat) : m_H := (fun a k => if a = h.2.2.2.2 then 0 else h.1 a k, fun a k => if a = h.2.2.2.2 then 0 else h.2.1 a k, fun a k => if a = h.2.2.2.2 then none else h.2.2.1 a k, fun a => if a = h.2.2.2.2 then (t, len) else h.2.2.2.1 a, h.2.2.2.2 + 1)
theorem m_def : ∀ ci, ci < 13 → ∀ j, j < m_fn ci → defaultValue (m_ty ci j) = (if m_tg (m_ty ci j) = 0 then .int 0 else if m_tg (m_ty ci j) = 1 then .long 0 else .null) := by decide +kernel
theorem m_tg3 (ty : FieldType) : m_tg ty = 0 ∨ m_tg ty = 1 ∨ m_tg ty = 2 := by cases ty <;> simp [m_tg]
theorem m_nw_f {h : m_H} {ci t len k : Nat} : m_f (m_nw h t len) ci h.2.2.2.2 k = (if m_tg (m_ty ci k) = 0 then .int 0 else if m_tg (m_ty ci k) = 1 then .long 0 else .null) := by
  rcases m_tg3 (m_ty ci k) with e | e | e <;> simp [m_f, e, m_nw, m_rv]
theorem m_nw_ws {G : m_G} {h : m_H} {t len : Nat} {e : va_E} (he : m_E G (m_nw h t len) h.2.2.2.2 = e) : m_ws G h ++ [(G.1 + h.2.2.2.2, e)] = m_ws G (m_nw h t len) := by
  have hn : (m_nw h t len).2.2.2.2 = h.2.2.2.2 + 1 := rfl
  unfold m_ws
  rw [hn, List.range_succ, List.map_append, ← he]
  congr 1
  apply List.map_congr_left
  intro i hi
  have hi' : i ≠ h.2.2.2.2 := by
    have := List.mem_range.mp hi
    omega
  have hf : ∀ ci k, m_f (m_nw h t len) ci i k = m_f h ci i k := by
    intro ci k
    simp only [m_f, m_nw, hi', if_false]
  simp only [m_E, hf]
  simp only [m_nw, hi', if_false]
section MN
variable {K : m_K} {pc : Nat} {z : Nat × Nat} {lv : List (Nat × Value)} {rest : List Value} {h : m_H} {Q : Option Value → m_H → Prop}
/-- a new cell's address -/
theorem m_newq {p : Program} {l : Launch} {e : Env} {R : Room} {s : State} {m : MethodId} {args : Array Value} {below : List Frame} {meth : Method} {c : Code} {G : m_G} {H1 : Heap} {locs : List Loc} {n0 : Nat} {Z : State → Prop} {g : JFrame} {k2 : Nat} {q : Nat} {E : va_E}
    (hP : va_P G.2.1 vwCl (m_ws G h ++ [(q, E)]) H1) (hD : va_D (m_A G) (m_ws G h ++ [(q, E)])) (hz : s.heap.size = G.1 + n0) (hn : h.2.2.2.2 = n0 + z.1)
    (kk : q = G.1 + h.2.2.2.2 → W p l e R s m args below meth c H1 locs (z.1 + 1) k2 Z g) : W p l e R s m args below meth c H1 locs (z.1 + 1) k2 Z g := by
  intro T hT X
  refine kk ?_ T hT X
  have h1 : H1.size ≤ s.heap.size + (z.1 + 1) := by rw [← hT]; exact X.heapSize
  have hlen : (m_ws G h).length = h.2.2.2.2 := by simp [m_ws]
  have hq : (m_ws G h ++ [(q, E)])[h.2.2.2.2]? = some (q, E) := by rw [List.getElem?_append_right (by omega), hlen]; simp
  have h2 : q < H1.size := (hP _ _ hq).lt
  have h3 : G.1 ≤ q := hD.2 _ _ hq
  by_cases h4 : q < G.1 + h.2.2.2.2
  · have h5 : q - G.1 < h.2.2.2.2 := by omega
    have h6 : (m_ws G h ++ [(q, E)])[q - G.1]? = some (G.1 + (q - G.1), m_E G h (q - G.1)) := by
      rw [List.getElem?_append_left (by omega), m_ws_at G h h5]
    have h7 := hD.1 _ _ _ _ h6 hq (by simp only; omega)
    omega
  · omega
theorem mw_new {idx : Nat} (ci : Nat) (hd : decode K.2.1 pc = .ok (.new idx, 3)) (hl : Cond.classLink K.1 idx (m_nm ci) ∈ m_tb) (hin : Cond.instantiable (m_nm ci) (m_fn ci) ∈ m_tb) (hini : Cond.initialized (m_nm ci) ∈ m_tb) (hc : ci < 13) (hr : z.1 + 1 ≤ K.2.2.2.2.2.2.1 ∧ z.2 + m_fn ci ≤ K.2.2.2.2.2.2.2) (hm : h.2.2.2.2 < 1000000)
    (kk : MW K (pc + 3) (z.1 + 1, z.2 + m_fn ci) lv (.ref h.2.2.2.2 :: rest) (m_nw h ci 0) Q) : MW K pc z lv rest h Q := by
  intro p l e s m args below meth c G H locs ls n0 hC hI hS hlv hz hn
  have hO : m_O (m_nw h ci 0) h.2.2.2.2 ci := ⟨Nat.lt_succ_self _, by simp [m_nw]⟩
  have hE := m_E_o (G := G) hO hc
  refine va_new (ci := ci) (fs := (List.range (m_fn ci)).map (fun k => m_v G (m_f (m_nw h ci 0) ci h.2.2.2.2 k))) hC.1 hC.2.1 hC.2.2.2.2.1 (m_inB hc) (m_ty ci) (m_tyok hc) hC.2.2.2.1 (hC.2.2.2.2.1 _ hl) (hC.2.2.2.2.1 _ hin) (hC.2.2.2.2.1 _ hini) hC.2.2.2.2.2.1.1 hI.1 (m_D G h) hS (fun q hq => Nat.le_trans hC.2.2.2.2.2.2.2.2.2 hq) (m_cl hc) ?_ hr.1 hr.2 hd (fun q H1 hP1 hD1 hS1 => ?_)
  · intro j hj
    rw [m_def ci hc j hj]
    simp only [vp_V, List.getD_eq_getElem?_getD, List.getElem?_map, List.getElem?_range hj, Option.map_some, Option.getD_some, m_nw_f]
    split
    · rfl
    · split <;> rfl
  · refine m_newq hP1 hD1 (hz (by omega)) hn (fun hq => ?_)
    subst hq
    rw [m_nw_ws (G := G) (h := h) (t := ci) (len := 0) hE] at hP1
    have hst : m_st G (.ref h.2.2.2.2 :: rest) = .ref (G.1 + h.2.2.2.2) :: m_st G rest := by simp [m_st, m_v, m_ad, hm]
    have := kk p l e s m args below meth c G H1 locs ls n0 hC ⟨hP1, Nat.succ_le_of_lt hm⟩ hS1 hlv hz (by show h.2.2.2.2 + 1 = n0 + (z.1 + 1); omega)
    rw [hst] at this
    exact this
theorem m_cA {G : m_G} {s : State} {cA : ClassId} {ty : FieldType} {t : Nat} (hK : va_K G.2.1 vwCl (m_tys G ++ [(cA, ty)]) s) (ht : (m_tys G)[t]? = some (G.2.2.1 t, ty)) : cA = G.2.2.1 t := by
  have h1 := (hK.2 6 (cA, ty) (by simp [m_tys])).2
  have h2 := (hK.2 t (G.2.2.1 t, ty) (by rw [List.getElem?_append_left (List.getElem?_eq_some_iff.mp ht).1]; exact ht)).2
  cases ty with
  | object C =>
    obtain ⟨_, _, _, _, _, e1⟩ := h1
    obtain ⟨_, _, _, _, _, e2⟩ := h2
    exact Option.some.inj (e1.symm.trans e2)
  | _ => exact Option.some.inj (h1.symm.trans h2)
theorem m_newa {at0 : ArrayType} {t : Nat} {n : Int32} {N : Nat} (hN : n.toNatClampNeg = N) (hd : decode K.2.1 pc = .ok (.newarray at0, 2)) (hw : Cond.arrayClass (newarray.typeOf at0) ∈ m_tb) (ht : ∀ G : m_G, (m_tys G)[t]? = some (G.2.2.1 t, newarray.typeOf at0)) (ht4 : t < 4) (h0 : ¬ n < 0) (hb : N * componentBytes (newarray.typeOf at0) ≤ 536870912) (hr : z.1 + 1 ≤ K.2.2.2.2.2.2.1 ∧ z.2 + N ≤ K.2.2.2.2.2.2.2) (hm : h.2.2.2.2 < 1000000)
    (hdef : defaultValue (newarray.typeOf at0) = if t = 1 then .long 0 else .int 0)
    (kk : MW K (pc + 2) (z.1 + 1, z.2 + N) lv (.ref h.2.2.2.2 :: rest) (m_nw h (100 + t) N) Q) : MW K pc z lv (.int n :: rest) h Q := by
  intro p l e s m args below meth c G H locs ls n0 hC hI hS hlv hz hn
  have hA : m_Ar (m_nw h (100 + t) N) h.2.2.2.2 t N := ⟨Nat.lt_succ_self _, by simp [m_nw]⟩
  have hst : m_st G (.ref h.2.2.2.2 :: rest) = .ref (G.1 + h.2.2.2.2) :: m_st G rest := by simp [m_st, m_v, m_ad, hm]
  by_cases h1 : t = 1
  · subst h1
    have hE := m_E_l (G := G) hA
    have hz0 : (m_nw h (100 + 1) N).2.1 h.2.2.2.2 = fun _ => 0 := by funext k; simp [m_nw]
    rw [hz0] at hE
    refine va_newa hC.1 hC.2.1 (hC.2.2.2.2.1 _ hw) rfl hC.2.2.2.2.2.1.1 hI.1 (m_D G h) hS (fun q hq => Nat.le_trans hC.2.2.2.2.2.2.2.2.2 hq) (a0 := (N, .inr (.inl (fun _ => 0)))) (fun cA => by rw [hdef]; rfl) h0 hN hb hr.1 hr.2 hd (fun q cA H1 hK1 hP1 hD1 hS1 => ?_)
    refine m_newq hP1 hD1 (hz (by omega)) hn (fun hq => ?_)
    have hcA := m_cA hK1 (ht G)
    subst hq; subst hcA
    rw [m_nw_ws (G := G) (h := h) (t := 100 + 1) (len := N) hE] at hP1
    have := kk p l e s m args below meth c G H1 locs ls n0 hC ⟨hP1, Nat.succ_le_of_lt hm⟩ hS1 hlv hz (by show h.2.2.2.2 + 1 = n0 + (z.1 + 1); omega)
    rw [hst] at this
    exact this
  · have hE := m_E_i (G := G) hA h1 ht4
    have hz0 : (m_nw h (100 + t) N).1 h.2.2.2.2 = fun _ => 0 := by funext k; simp [m_nw]
    rw [hz0] at hE
    refine va_newa hC.1 hC.2.1 (hC.2.2.2.2.1 _ hw) rfl hC.2.2.2.2.2.1.1 hI.1 (m_D G h) hS (fun q hq => Nat.le_trans hC.2.2.2.2.2.2.2.2.2 hq) (a0 := (N, .inl (fun _ => 0))) (fun cA => by rw [hdef, if_neg h1]; rfl) h0 hN hb hr.1 hr.2 hd (fun q cA H1 hK1 hP1 hD1 hS1 => ?_)
    refine m_newq hP1 hD1 (hz (by omega)) hn (fun hq => ?_)
    have hcA := m_cA hK1 (ht G)
    subst hq; subst hcA
    rw [m_nw_ws (G := G) (h := h) (t := 100 + t) (len := N) hE] at hP1
    have := kk p l e s m args below meth c G H1 locs ls n0 hC ⟨hP1, Nat.succ_le_of_lt hm⟩ hS1 hlv hz (by show h.2.2.2.2 + 1 = n0 + (z.1 + 1); omega)
    rw [hst] at this
    exact this
theorem mw_newR {idx : Nat} {t ci : Nat} {n : Int32} {N : Nat} (hN : n.toNatClampNeg = N) (htc : (t = 4 ∧ ci = 8) ∨ (t = 5 ∧ ci = 4)) (hd : decode K.2.1 pc = .ok (.anewarray idx, 3)) (hl : Cond.classLink K.1 idx (m_nm ci) ∈ m_tb) (h0 : ¬ n < 0) (hb : N * 4 ≤ 536870912) (hr : z.1 + 1 ≤ K.2.2.2.2.2.2.1 ∧ z.2 + N ≤ K.2.2.2.2.2.2.2) (hm : h.2.2.2.2 < 1000000)
    (kk : MW K (pc + 3) (z.1 + 1, z.2 + N) lv (.ref h.2.2.2.2 :: rest) (m_nw h (100 + t) N) Q) : MW K pc z lv (.int n :: rest) h Q := by
  intro p l e s m args below meth c G H locs ls n0 hC hI hS hlv hz hn
  have hA : m_Ar (m_nw h (100 + t) N) h.2.2.2.2 t N := ⟨Nat.lt_succ_self _, by simp [m_nw]⟩
  have hst : m_st G (.ref h.2.2.2.2 :: rest) = .ref (G.1 + h.2.2.2.2) :: m_st G rest := by simp [m_st, m_v, m_ad, hm]
  have hE := m_E_r (G := G) hA (by rcases htc with ⟨rfl, rfl⟩ | ⟨rfl, rfl⟩ <;> decide)
  have hz0 : (fun j => ((m_nw h (100 + t) N).2.2.1 h.2.2.2.2 j).map (m_ad G)) = fun _ => none := by funext k; simp [m_nw]
  rw [hz0] at hE
  have hO : va_AO (m_nm ci) s := by
    rcases htc with ⟨rfl, rfl⟩ | ⟨rfl, rfl⟩
    · exact hC.2.2.2.2.2.1.2.1
    · exact hC.2.2.2.2.2.1.2.2.1
  have ht : (m_tys G)[t]? = some (G.2.2.1 t, .object (m_nm ci)) := by rcases htc with ⟨rfl, rfl⟩ | ⟨rfl, rfl⟩ <;> rfl
  refine va_newq hC.1 hC.2.1 hC.2.2.2.1 (hC.2.2.2.2.1 _ hl) hO hC.2.2.2.2.2.1.1 hI.1 (m_D G h) hS (fun q hq => Nat.le_trans hC.2.2.2.2.2.2.2.2.2 hq) h0 hN hb hr.1 hr.2 hd (fun q cA H1 hK1 hP1 hD1 hS1 => ?_)
  refine m_newq hP1 hD1 (hz (by omega)) hn (fun hq => ?_)
  have hcA := m_cA hK1 ht
  subst hq; subst hcA
  rw [m_nw_ws (G := G) (h := h) (t := 100 + t) (len := N) hE] at hP1
  have := kk p l e s m args below meth c G H1 locs ls n0 hC ⟨hP1, Nat.succ_le_of_lt hm⟩ hS1 hlv hz (by show h.2.2.2.2 + 1 = n0 + (z.1 + 1); omega)
  rw [hst] at this
  exact this
theorem mw_objI {idx a : Nat} (hd : decode K.2.1 pc = .ok (.invokespecial idx, 3)) (hl : Cond.methodLink K.1 idx Lib.objectInit ∈ m_tb) (hi : Cond.instanceMethod Lib.objectInit ∈ m_tb) (hc0 : Cond.code Lib.objectInit ⟨#[0xb1]⟩ 1 none ∈ m_tb) (hdep : 1 ≤ K.2.2.2.2.2.1) (hw : (rest.map fun v => v.category).sum ≤ 8) (k : MW K (pc + 3) z lv rest h Q) : MW K pc z lv (.ref a :: rest) h Q := by
  intro p l e s m args below meth c G H locs ls n0 hC hI hS hlv hz hn
  have hcw : (m_st G rest).map (fun v => v.category) = rest.map (fun v => v.category) := by simp [m_st, Function.comp_def, m_cat]
  refine W.objInit hC.1 hC.2.1 hC.2.2.2.1 (hC.2.2.2.2.1 _ hl) (hC.2.2.2.2.1 _ hi) (hC.2.2.2.2.1 _ hc0) (a := m_ad G a) (rest := m_st G rest) rfl (hlv.1.trans hC.2.2.1.symm) rfl hd hdep ?_ (k p l e s m args below meth c G H locs ls n0 hC hI hS hlv hz hn)
  have := lv_room (m := m) (pc := pc) (ls := ls) (rest := m_st G (.ref a :: rest)) (st := m_st G rest) (by rw [hcw]; exact hw)
  simp only [m_R]
  omega
def m_ci (h : m_H) (a : Nat) (f : Nat → Int32) : m_H := (fun a' => if a' = a then f else h.1 a', h.2)
def m_cl' (h : m_H) (a : Nat) (f : Nat → Int64) : m_H := (h.1, fun a' => if a' = a then f else h.2.1 a', h.2.2)
theorem mw_copyi {idx a0 a n0' n1 : Nat} {sp dp n : Int32} (hd : decode K.2.1 pc = .ok (.invokestatic idx, 3)) (hl : Cond.methodLink K.1 idx arraycopyName ∈ m_tb) (hnat : Cond.native arraycopyName ∈ m_tb) (hst0 : Cond.static arraycopyName ∈ m_tb) (hini : Cond.initialized "java/lang/System" ∈ m_tb) (ha0 : m_Ar h a0 0 n0') (ha : m_Ar h a 0 n1) (h1 : ¬ sp < 0) (h2 : ¬ dp < 0) (h3 : ¬ n < 0) (h4 : sp.toNatClampNeg + n.toNatClampNeg ≤ n0') (h5 : dp.toNatClampNeg + n.toNatClampNeg ≤ n1) (hdep : 1 ≤ K.2.2.2.2.2.1) (hw : (rest.map fun v => v.category).sum ≤ 8)
    (kk : MW K (pc + 3) z lv rest (m_ci h a (va_cpy (h.1 a0) (h.1 a) sp.toNatClampNeg dp.toNatClampNeg n.toNatClampNeg)) Q) : MW K pc z lv (.int n :: .int dp :: .ref a :: .int sp :: .ref a0 :: rest) h Q := by
  intro p l e s m args below meth c G H locs ls n0 hC hI hS hlv hz hn
  have hst : m_st G (.int n :: .int dp :: .ref a :: .int sp :: .ref a0 :: rest) = .int n :: .int dp :: .ref (G.1 + a) :: .int sp :: .ref (G.1 + a0) :: m_st G rest := by simp [m_st, m_v, m_ad_at G ha.1 hI.2, m_ad_at G ha0.1 hI.2]
  rw [hst]
  have hcw : (m_st G rest).map (fun v => v.category) = rest.map (fun v => v.category) := by simp [m_st, Function.comp_def, m_cat]
  have hset : (m_ws G h).set a (G.1 + a, .inl (G.2.2.1 0, n1, .inl (va_cpy (h.1 a0) (h.1 a) sp.toNatClampNeg dp.toNatClampNeg n.toNatClampNeg))) = m_ws G (m_ci h a (va_cpy (h.1 a0) (h.1 a) sp.toNatClampNeg dp.toNatClampNeg n.toNatClampNeg)) :=
    m_ws_set rfl (by rw [m_E_i (h := m_ci h a _) (t := 0) (n := n1) ha (by decide) (by decide)]; simp [m_ci]) (fun j hj => m_E_congr (by simp [m_ci, hj]) rfl rfl rfl)
  refine va_copyi hC.1 hC.2.1 (hC.2.2.1.trans hlv.1.symm) hC.2.2.2.1 (hC.2.2.2.2.1 _ hl) (hC.2.2.2.2.1 _ hnat) (hC.2.2.2.2.1 _ hst0) (hC.2.2.2.2.1 _ hini) hC.2.2.2.2.2.1.1 hI.1 (m_D G h) hS a0 a 0 0 (ty := .int) ((m_ws_at G h ha0.1).trans (by rw [m_E_i ha0 (by decide) (by decide)])) ((m_ws_at G h ha.1).trans (by rw [m_E_i ha (by decide) (by decide)])) rfl rfl (by decide) h1 h2 h3 h4 h5 (fun _ _ => rfl) hdep ?_ hd (fun H1 locs1 hP1 _ hS1 => ?_)
  · rw [hcw]
    have : nativeFrameWords "java/lang/System" "arraycopy" 5 ≤ 60 := by decide +kernel
    simp only [m_R]
    omega
  · rw [hset] at hP1
    exact kk p l e s m args below meth c G H1 locs1 ls n0 hC ⟨hP1, hI.2⟩ hS1 hlv hz hn
theorem mw_copyl {idx a0 a n0' n1 : Nat} {sp dp n : Int32} (hd : decode K.2.1 pc = .ok (.invokestatic idx, 3)) (hl : Cond.methodLink K.1 idx arraycopyName ∈ m_tb) (hnat : Cond.native arraycopyName ∈ m_tb) (hst0 : Cond.static arraycopyName ∈ m_tb) (hini : Cond.initialized "java/lang/System" ∈ m_tb) (ha0 : m_Ar h a0 1 n0') (ha : m_Ar h a 1 n1) (h1 : ¬ sp < 0) (h2 : ¬ dp < 0) (h3 : ¬ n < 0) (h4 : sp.toNatClampNeg + n.toNatClampNeg ≤ n0') (h5 : dp.toNatClampNeg + n.toNatClampNeg ≤ n1) (hdep : 1 ≤ K.2.2.2.2.2.1) (hw : (rest.map fun v => v.category).sum ≤ 8)
    (kk : MW K (pc + 3) z lv rest (m_cl' h a (va_cpy (h.2.1 a0) (h.2.1 a) sp.toNatClampNeg dp.toNatClampNeg n.toNatClampNeg)) Q) : MW K pc z lv (.int n :: .int dp :: .ref a :: .int sp :: .ref a0 :: rest) h Q := by
  intro p l e s m args below meth c G H locs ls n0 hC hI hS hlv hz hn
  have hst : m_st G (.int n :: .int dp :: .ref a :: .int sp :: .ref a0 :: rest) = .int n :: .int dp :: .ref (G.1 + a) :: .int sp :: .ref (G.1 + a0) :: m_st G rest := by simp [m_st, m_v, m_ad_at G ha.1 hI.2, m_ad_at G ha0.1 hI.2]
  rw [hst]
  have hcw : (m_st G rest).map (fun v => v.category) = rest.map (fun v => v.category) := by simp [m_st, Function.comp_def, m_cat]
  have hset : (m_ws G h).set a (G.1 + a, .inl (G.2.2.1 1, n1, .inr (.inl (va_cpy (h.2.1 a0) (h.2.1 a) sp.toNatClampNeg dp.toNatClampNeg n.toNatClampNeg)))) = m_ws G (m_cl' h a (va_cpy (h.2.1 a0) (h.2.1 a) sp.toNatClampNeg dp.toNatClampNeg n.toNatClampNeg)) :=
    m_ws_set rfl (by rw [m_E_l (h := m_cl' h a _) (n := n1) ha]; simp [m_cl']) (fun j hj => m_E_congr rfl (by simp [m_cl', hj]) rfl rfl)
  refine va_copyl hC.1 hC.2.1 (hC.2.2.1.trans hlv.1.symm) hC.2.2.2.1 (hC.2.2.2.2.1 _ hl) (hC.2.2.2.2.1 _ hnat) (hC.2.2.2.2.1 _ hst0) (hC.2.2.2.2.1 _ hini) hC.2.2.2.2.2.1.1 hI.1 (m_D G h) hS a0 a 1 1 (ty := .long) ((m_ws_at G h ha0.1).trans (by rw [m_E_l ha0])) ((m_ws_at G h ha.1).trans (by rw [m_E_l ha])) rfl rfl (by decide) h1 h2 h3 h4 h5 (fun _ _ => rfl) hdep ?_ hd (fun H1 locs1 hP1 _ hS1 => ?_)
  · rw [hcw]
    have : nativeFrameWords "java/lang/System" "arraycopy" 5 ≤ 60 := by decide +kernel
    simp only [m_R]
    omega
  · rw [hset] at hP1
    exact kk p l e s m args below meth c G H1 locs1 ls n0 hC ⟨hP1, hI.2⟩ hS1 hlv hz hn
end MN
