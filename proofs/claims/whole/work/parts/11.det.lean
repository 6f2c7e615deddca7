/-- it answers v and leaves the world h1 -/
def m_r (v : Value) (h1 : m_H) : Option Value → m_H → Prop := fun r h2 => r = some v ∧ h2 = h1
def m_rn (h1 : m_H) : Option Value → m_H → Prop := fun r h2 => r = none ∧ h2 = h1
section MD
variable {K : m_K} {pc : Nat} {z : Nat × Nat} {lv : List (Nat × Value)} {rest : List Value} {h h1 : m_H} {Q : Option Value → m_H → Prop} {v : Value}
variable {y : MethodName} {cc : ByteArray} {nL : Nat} {ret : Option FieldType} {n ci d : Nat} {idx : Nat} {As : List Value} {b : Nat}
theorem mw_cV (As : List Value) (hM : MC y cc nL ret d 0 0 (.ref b :: As) h (m_r v h1)) (hy : m_YV y cc nL ret n ci) (hd : decode K.2.1 pc = .ok (.invokevirtual idx, 3)) (hl : Cond.methodLink K.1 idx y ∈ m_tb) (hb : m_O h b ci) (hdep : K.2.2.2.2.2.1 = d + 1) (hnA : As.length = n) (hw : (rest.map fun v => v.category).sum ≤ 8) (hc : z.1 ≤ K.2.2.2.2.2.2.1 ∧ z.2 ≤ K.2.2.2.2.2.2.2)
    {st : List Value} (hst : st = As.reverse ++ .ref b :: rest) (kk : MW K (pc + 3) z lv (v :: rest) h1 Q) : MW K pc z lv st h Q := by
  subst hst
  exact mw_callV hM hy hd hl hb hdep hnA hw hc (fun r h' hq => by obtain ⟨rfl, rfl⟩ := hq; exact kk)
theorem mw_cVv (As : List Value) (hM : MC y cc nL ret d 0 0 (.ref b :: As) h (m_rn h1)) (hy : m_YV y cc nL ret n ci) (hd : decode K.2.1 pc = .ok (.invokevirtual idx, 3)) (hl : Cond.methodLink K.1 idx y ∈ m_tb) (hb : m_O h b ci) (hdep : K.2.2.2.2.2.1 = d + 1) (hnA : As.length = n) (hw : (rest.map fun v => v.category).sum ≤ 8) (hc : z.1 ≤ K.2.2.2.2.2.2.1 ∧ z.2 ≤ K.2.2.2.2.2.2.2)
    {st : List Value} (hst : st = As.reverse ++ .ref b :: rest) (kk : MW K (pc + 3) z lv rest h1 Q) : MW K pc z lv st h Q := by
  subst hst
  exact mw_callV hM hy hd hl hb hdep hnA hw hc (fun r h' hq => by obtain ⟨rfl, rfl⟩ := hq; exact kk)
theorem mw_cS (As : List Value) (hM : MC y cc nL ret d 0 0 As h (m_r v h1)) (hy : m_Y y cc nL ret n ∧ Cond.static y ∈ m_tb) (hd : decode K.2.1 pc = .ok (.invokestatic idx, 3)) (hl : Cond.methodLink K.1 idx y ∈ m_tb) (hdep : K.2.2.2.2.2.1 = d + 1) (hnA : As.length = n) (hw : (rest.map fun v => v.category).sum ≤ 8) (hc : z.1 ≤ K.2.2.2.2.2.2.1 ∧ z.2 ≤ K.2.2.2.2.2.2.2)
    {st : List Value} (hst : st = As.reverse ++ rest) (kk : MW K (pc + 3) z lv (v :: rest) h1 Q) : MW K pc z lv st h Q := by
  subst hst
  exact mw_callS hM hy hd hl hdep hnA hw hc (fun r h' hq => by obtain ⟨rfl, rfl⟩ := hq; exact kk)
theorem mw_cSv (As : List Value) (hM : MC y cc nL ret d 0 0 As h (m_rn h1)) (hy : m_Y y cc nL ret n ∧ Cond.static y ∈ m_tb) (hd : decode K.2.1 pc = .ok (.invokestatic idx, 3)) (hl : Cond.methodLink K.1 idx y ∈ m_tb) (hdep : K.2.2.2.2.2.1 = d + 1) (hnA : As.length = n) (hw : (rest.map fun v => v.category).sum ≤ 8) (hc : z.1 ≤ K.2.2.2.2.2.2.1 ∧ z.2 ≤ K.2.2.2.2.2.2.2)
    {st : List Value} (hst : st = As.reverse ++ rest) (kk : MW K (pc + 3) z lv rest h1 Q) : MW K pc z lv st h Q := by
  subst hst
  exact mw_callS hM hy hd hl hdep hnA hw hc (fun r h' hq => by obtain ⟨rfl, rfl⟩ := hq; exact kk)
theorem mw_cSN (As : List Value) (hM : MC y cc nL ret d 0 0 As h (m_r v h1)) (hy : m_Y y cc nL ret n ∧ Cond.static y ∈ m_tb) (hd : decode K.2.1 pc = .ok (.invokestatic idx, 3)) (hl : (K.1, idx, y) ∈ m_nest) (hdep : K.2.2.2.2.2.1 = d + 1) (hnA : As.length = n) (hw : (rest.map fun v => v.category).sum ≤ 8) (hc : z.1 ≤ K.2.2.2.2.2.2.1 ∧ z.2 ≤ K.2.2.2.2.2.2.2)
    {st : List Value} (hst : st = As.reverse ++ rest) (kk : MW K (pc + 3) z lv (v :: rest) h1 Q) : MW K pc z lv st h Q := by
  subst hst
  exact mw_callSN hM hy hd hl hdep hnA hw hc (fun r h' hq => by obtain ⟨rfl, rfl⟩ := hq; exact kk)
theorem mw_cSNv (As : List Value) (hM : MC y cc nL ret d 0 0 As h (m_rn h1)) (hy : m_Y y cc nL ret n ∧ Cond.static y ∈ m_tb) (hd : decode K.2.1 pc = .ok (.invokestatic idx, 3)) (hl : (K.1, idx, y) ∈ m_nest) (hdep : K.2.2.2.2.2.1 = d + 1) (hnA : As.length = n) (hw : (rest.map fun v => v.category).sum ≤ 8) (hc : z.1 ≤ K.2.2.2.2.2.2.1 ∧ z.2 ≤ K.2.2.2.2.2.2.2)
    {st : List Value} (hst : st = As.reverse ++ rest) (kk : MW K (pc + 3) z lv rest h1 Q) : MW K pc z lv st h Q := by
  subst hst
  exact mw_callSN hM hy hd hl hdep hnA hw hc (fun r h' hq => by obtain ⟨rfl, rfl⟩ := hq; exact kk)
/-- an index that is a number -/
theorem mw_iaN {a : Nat} {i : Int32} (j : Nat) {n : Nat} (hd : decode K.2.1 pc = .ok (.iaload, 1)) (ha : m_Ar h a 0 n) (hj : j < n) (hn : n < 2 ^ 31) (hi : i = nI j) (kk : MW K (pc + 1) z lv (.int (h.1 a j) :: rest) h Q) : MW K pc z lv (.int i :: .ref a :: rest) h Q := by
  subst hi
  exact mw_iald hd ha (vp_in_nI hj hn) (by rw [nI_clamp (by omega)]; exact kk)
theorem mw_baN {a : Nat} {i : Int32} (j : Nat) {n : Nat} (hd : decode K.2.1 pc = .ok (.baload, 1)) (ha : m_Ar h a 2 n) (hj : j < n) (hn : n < 2 ^ 31) (hi : i = nI j) (kk : MW K (pc + 1) z lv (.int (h.1 a j) :: rest) h Q) : MW K pc z lv (.int i :: .ref a :: rest) h Q := by
  subst hi
  exact mw_bald hd ha (vp_in_nI hj hn) (by rw [nI_clamp (by omega)]; exact kk)
theorem mw_zaN {a : Nat} {i : Int32} (j : Nat) {n : Nat} (hd : decode K.2.1 pc = .ok (.baload, 1)) (ha : m_Ar h a 3 n) (hj : j < n) (hn : n < 2 ^ 31) (hi : i = nI j) (kk : MW K (pc + 1) z lv (.int (h.1 a j) :: rest) h Q) : MW K pc z lv (.int i :: .ref a :: rest) h Q := by
  subst hi
  exact mw_zald hd ha (vp_in_nI hj hn) (by rw [nI_clamp (by omega)]; exact kk)
theorem mw_laN {a : Nat} {i : Int32} (j : Nat) {n : Nat} (hd : decode K.2.1 pc = .ok (.laload, 1)) (ha : m_Ar h a 1 n) (hj : j < n) (hn : n < 2 ^ 31) (hi : i = nI j) (kk : MW K (pc + 1) z lv (.long (h.2.1 a j) :: rest) h Q) : MW K pc z lv (.int i :: .ref a :: rest) h Q := by
  subst hi
  exact mw_lald hd ha (vp_in_nI hj hn) (by rw [nI_clamp (by omega)]; exact kk)
theorem mw_aaN {t a b : Nat} {i : Int32} (j : Nat) {n : Nat} (ht : t = 4 ∨ t = 5) (hd : decode K.2.1 pc = .ok (.aaload, 1)) (ha : m_Ar h a t n) (hj : j < n) (hn : n < 2 ^ 31) (hi : i = nI j) (hb : h.2.2.1 a j = some b) (kk : MW K (pc + 1) z lv (.ref b :: rest) h Q) : MW K pc z lv (.int i :: .ref a :: rest) h Q := by
  subst hi
  exact mw_aald ht hd ha (vp_in_nI hj hn) (by rw [nI_clamp (by omega)]; exact hb) kk
theorem mw_isN {a : Nat} {i x : Int32} (j : Nat) {n : Nat} (hd : decode K.2.1 pc = .ok (.iastore, 1)) (ha : m_Ar h a 0 n) (hj : j < n) (hn : n < 2 ^ 31) (hi : i = nI j) (kk : MW K (pc + 1) z lv rest (m_si h a j x) Q) : MW K pc z lv (.int x :: .int i :: .ref a :: rest) h Q := by
  subst hi
  exact mw_iast hd ha (vp_in_nI hj hn) (by rw [nI_clamp (by omega)]; exact kk)
theorem mw_bsN {a : Nat} {i x : Int32} (j : Nat) {n : Nat} (hd : decode K.2.1 pc = .ok (.bastore, 1)) (ha : m_Ar h a 2 n) (hj : j < n) (hn : n < 2 ^ 31) (hi : i = nI j) (kk : MW K (pc + 1) z lv rest (m_si h a j x.toInt8.toInt32) Q) : MW K pc z lv (.int x :: .int i :: .ref a :: rest) h Q := by
  subst hi
  exact mw_bast hd ha (vp_in_nI hj hn) (by rw [nI_clamp (by omega)]; exact kk)
theorem mw_zsN {a : Nat} {i x : Int32} (j : Nat) {n : Nat} (hd : decode K.2.1 pc = .ok (.bastore, 1)) (ha : m_Ar h a 3 n) (hj : j < n) (hn : n < 2 ^ 31) (hi : i = nI j) (hx : x = 0 ∨ x = 1) (kk : MW K (pc + 1) z lv rest (m_si h a j x) Q) : MW K pc z lv (.int x :: .int i :: .ref a :: rest) h Q := by
  subst hi
  exact mw_zast hd ha (vp_in_nI hj hn) hx (by rw [nI_clamp (by omega)]; exact kk)
theorem mw_lsN {a : Nat} {i : Int32} {x : Int64} (j : Nat) {n : Nat} (hd : decode K.2.1 pc = .ok (.lastore, 1)) (ha : m_Ar h a 1 n) (hj : j < n) (hn : n < 2 ^ 31) (hi : i = nI j) (kk : MW K (pc + 1) z lv rest (m_sj h a j x) Q) : MW K pc z lv (.long x :: .int i :: .ref a :: rest) h Q := by
  subst hi
  exact mw_last hd ha (vp_in_nI hj hn) (by rw [nI_clamp (by omega)]; exact kk)
theorem mw_asN {t ci a b : Nat} {i : Int32} (j : Nat) {n : Nat} (ht : (t = 4 ∧ ci = 8) ∨ (t = 5 ∧ ci = 4)) (hd : decode K.2.1 pc = .ok (.aastore, 1)) (ha : m_Ar h a t n) (hj : j < n) (hn : n < 2 ^ 31) (hi : i = nI j) (hb : m_O h b ci) (kk : MW K (pc + 1) z lv rest (m_sr h a j (some b)) Q) : MW K pc z lv (.ref b :: .int i :: .ref a :: rest) h Q := by
  subst hi
  exact mw_aast ht hd ha (vp_in_nI hj hn) hb (by rw [nI_clamp (by omega)]; exact kk)
theorem mw_top {x x' : Int32} (e : x = x') (k : MW K pc z lv (.int x' :: rest) h Q) : MW K pc z lv (.int x :: rest) h Q := e ▸ k
theorem mw_topl {x x' : Int64} (e : x = x') (k : MW K pc z lv (.long x' :: rest) h Q) : MW K pc z lv (.long x :: rest) h Q := e ▸ k
theorem mw_hp {h' : m_H} (e : h = h') (k : MW K pc z lv rest h' Q) : MW K pc z lv rest h Q := e ▸ k
end MD
