def m_si (h : m_H) (a k : Nat) (v : Int32) : m_H := (fun a' k' => if a' = a ∧ k' = k then v else h.1 a' k', h.2)
def m_sj (h : m_H) (a k : Nat) (v : Int64) : m_H := (h.1, fun a' k' => if a' = a ∧ k' = k then v else h.2.1 a' k', h.2.2)
def m_sr (h : m_H) (a k : Nat) (v : Option Nat) : m_H := (h.1, h.2.1, fun a' k' => if a' = a ∧ k' = k then v else h.2.2.1 a' k', h.2.2.2)
/-- an object of a sort, an array of a sort and length -/
def m_O (h : m_H) (a ci : Nat) : Prop := a < h.2.2.2.2 ∧ (h.2.2.2.1 a).1 = ci
def m_Ar (h : m_H) (a t n : Nat) : Prop := a < h.2.2.2.2 ∧ h.2.2.2.1 a = (100 + t, n)
theorem m_E_o {G : m_G} {h : m_H} {a ci : Nat} (ho : m_O h a ci) (hc : ci < 13) : m_E G h a = .inr (ci, (List.range (m_fn ci)).map (fun k => m_v G (m_f h ci a k))) := by
  have : ci < 100 := by omega
  simp [m_E, ho.2, this]
theorem m_E_i {G : m_G} {h : m_H} {a t n : Nat} (ho : m_Ar h a t n) (ht : t ≠ 1) (h4 : t < 4) : m_E G h a = .inl (G.2.2.1 t, n, .inl (h.1 a)) := by
  have e1 : ¬ (100 + t < 100) := by omega
  have e2 : ¬ (100 + t = 101) := by omega
  have e3 : 100 + t < 104 := by omega
  simp [m_E, ho.2, e1, e2, e3]
theorem m_E_l {G : m_G} {h : m_H} {a n : Nat} (ho : m_Ar h a 1 n) : m_E G h a = .inl (G.2.2.1 1, n, .inr (.inl (h.2.1 a))) := by
  simp [m_E, ho.2]
theorem m_E_r {G : m_G} {h : m_H} {a t n : Nat} (ho : m_Ar h a t n) (h4 : 4 ≤ t) : m_E G h a = .inl (G.2.2.1 t, n, .inr (.inr (.inr (.inr (fun j => (h.2.2.1 a j).map (m_ad G)))))) := by
  have e1 : ¬ (100 + t < 100) := by omega
  have e2 : ¬ (100 + t = 101) := by omega
  have e3 : ¬ (100 + t < 104) := by omega
  simp [m_E, ho.2, e1, e2, e3]
theorem m_ws_set {G : m_G} {h h' : m_H} {a : Nat} {e : va_E} (hn : h'.2.2.2.2 = h.2.2.2.2) (h1 : m_E G h' a = e) (h2 : ∀ i, i ≠ a → m_E G h' i = m_E G h i) : (m_ws G h).set a (G.1 + a, e) = m_ws G h' := by
  apply List.ext_getElem?
  intro i
  by_cases hi : i < h.2.2.2.2
  · rw [m_ws_at G h' (by rw [hn]; exact hi)]
    by_cases hia : i = a
    · subst hia
      rw [List.getElem?_set_self (by simp [m_ws, hi]), h1]
    · rw [List.getElem?_set_ne (Ne.symm hia), m_ws_at G h hi, h2 i hia]
  · rw [List.getElem?_eq_none (by simp [m_ws]; omega), List.getElem?_eq_none (by simp [m_ws]; omega)]
theorem m_E_congr {G : m_G} {h h' : m_H} {i : Nat} (h1 : h'.1 i = h.1 i) (h2 : h'.2.1 i = h.2.1 i) (h3 : h'.2.2.1 i = h.2.2.1 i) (h4 : h'.2.2.2.1 = h.2.2.2.1) : m_E G h' i = m_E G h i := by
  have hf : ∀ ci k, m_f h' ci i k = m_f h ci i k := by
    intro ci k
    simp only [m_f, h1, h2, h3]
  simp only [m_E, h1, h2, h3, h4, hf]
section MH
variable {K : m_K} {pc : Nat} {z : Nat × Nat} {lv : List (Nat × Value)} {rest : List Value} {h : m_H} {Q : Option Value → m_H → Prop}
theorem mw_getv {a : Nat} {v : Value} {idx : Nat} (ci k : Nat) (hd : decode K.2.1 pc = .ok (.getfield idx, 3)) (hl : Cond.fieldLink K.1 idx (m_T ci k).1 (m_T ci k).2.1 (m_T ci k).2.2.1 ∈ m_tb) (hc : ci < 13) (hk : k < m_fn ci) (ho : m_O h a ci) (hv : m_f h ci a k = v) (kk : MW K (pc + 3) z lv (v :: rest) h Q) : MW K pc z lv (.ref a :: rest) h Q := by
  intro p l e s m args below meth c G H locs ls n0 hC hI hS hlv hz hn
  have had : m_ad G a = G.1 + a := m_ad_at G ho.1 hI.2
  have hst : m_st G (.ref a :: rest) = .ref (G.1 + a) :: m_st G rest := by simp [m_st, m_v, had]
  rw [hst]
  refine va_get hC.1 hC.2.1 hC.2.2.2.2.1 (m_inB hc) hC.2.2.2.1 hC.2.2.2.2.2.1.1 hI.1 a (ci := ci) ((m_ws_at G h ho.1).trans (by rw [m_E_o ho hc])) (m_cl hc) k hk (hC.2.2.2.2.1 _ hl) (fun x hx => hx) (v := m_v G v) ?_ hd (kk p l e s m args below meth c G H locs ls n0 hC hI hS hlv hz hn)
  rw [List.getElem?_map, List.getElem?_range hk, ← hv]
  rfl
theorem mw_geti {a idx : Nat} (ci k : Nat) (hd : decode K.2.1 pc = .ok (.getfield idx, 3)) (hl : Cond.fieldLink K.1 idx (m_T ci k).1 (m_T ci k).2.1 (m_T ci k).2.2.1 ∈ m_tb) (hc : ci < 13) (hk : k < m_fn ci) (ht : m_tg (m_ty ci k) = 0) (ho : m_O h a ci) (kk : MW K (pc + 3) z lv (.int (h.1 a k) :: rest) h Q) : MW K pc z lv (.ref a :: rest) h Q := mw_getv ci k hd hl hc hk ho (by simp [m_f, ht]) kk
theorem mw_getl {a idx : Nat} (ci k : Nat) (hd : decode K.2.1 pc = .ok (.getfield idx, 3)) (hl : Cond.fieldLink K.1 idx (m_T ci k).1 (m_T ci k).2.1 (m_T ci k).2.2.1 ∈ m_tb) (hc : ci < 13) (hk : k < m_fn ci) (ht : m_tg (m_ty ci k) = 1) (ho : m_O h a ci) (kk : MW K (pc + 3) z lv (.long (h.2.1 a k) :: rest) h Q) : MW K pc z lv (.ref a :: rest) h Q := mw_getv ci k hd hl hc hk ho (by simp [m_f, ht]) kk
theorem mw_getr {a b idx : Nat} (ci k : Nat) (hd : decode K.2.1 pc = .ok (.getfield idx, 3)) (hl : Cond.fieldLink K.1 idx (m_T ci k).1 (m_T ci k).2.1 (m_T ci k).2.2.1 ∈ m_tb) (hc : ci < 13) (hk : k < m_fn ci) (ht : m_tg (m_ty ci k) = 2) (ho : m_O h a ci) (hr : h.2.2.1 a k = some b) (kk : MW K (pc + 3) z lv (.ref b :: rest) h Q) : MW K pc z lv (.ref a :: rest) h Q := mw_getv ci k hd hl hc hk ho (by simp [m_f, ht, hr, m_rv]) kk
theorem m_o_set {G : m_G} {h h' : m_H} {a ci k : Nat} {v : Value} (hk : k < m_fn ci) (hv : m_v G (m_f h' ci a k) = v) (hne : ∀ k', k' ≠ k → m_f h' ci a k' = m_f h ci a k') : ((List.range (m_fn ci)).map (fun k => m_v G (m_f h ci a k))).set k v = (List.range (m_fn ci)).map (fun k => m_v G (m_f h' ci a k)) := by
  apply List.ext_getElem?
  intro i
  by_cases hi : i < m_fn ci
  · rw [List.getElem?_map, List.getElem?_range hi]
    by_cases hik : i = k
    · subst hik
      rw [List.getElem?_set_self (by simp [hi]), ← hv]
      rfl
    · rw [List.getElem?_set_ne (Ne.symm hik), List.getElem?_map, List.getElem?_range hi]
      simp [hne i hik]
  · rw [List.getElem?_eq_none (by simp; omega), List.getElem?_eq_none (by simp; omega)]
theorem mw_putv {a : Nat} {v : Value} {idx : Nat} {h' : m_H} (ci k : Nat) (hd : decode K.2.1 pc = .ok (.putfield idx, 3)) (hl : Cond.fieldLink K.1 idx (m_T ci k).1 (m_T ci k).2.1 (m_T ci k).2.2.1 ∈ m_tb) (hc : ci < 13) (hk : k < m_fn ci) (ho : m_O h a ci)
    (hfin : (m_T ci k).2.2.2 = false ∨ ((m_T ci k).2.2.2 = true ∧ K.2.2.2.2.1 = "<init>" ∧ (m_T ci k).1 = K.1))
    (hn1 : ∀ G : m_G, narrow (m_ty ci k) (m_v G v) = m_v G v) (hf1 : ∀ G : m_G, fits (m_ty ci k) (m_v G v) = true)
    (hv : m_f h' ci a k = v) (hne : ∀ k', k' ≠ k → m_f h' ci a k' = m_f h ci a k') (hE : ∀ (G : m_G) (i : Nat), i ≠ a → m_E G h' i = m_E G h i) (hkd : h'.2.2.2 = h.2.2.2) (kk : MW K (pc + 3) z lv rest h' Q) : MW K pc z lv (v :: .ref a :: rest) h Q := by
  intro p l e s m args below meth c G H locs ls n0 hC hI hS hlv hz hn
  have had : m_ad G a = G.1 + a := m_ad_at G ho.1 hI.2
  have hst : m_st G (v :: .ref a :: rest) = m_v G v :: .ref (G.1 + a) :: m_st G rest := by simp [m_st, m_v, had]
  rw [hst]
  have ho' : m_O h' a ci := by
    unfold m_O
    rw [hkd]
    exact ho
  have hset : (m_ws G h).set a (G.1 + a, .inr (ci, ((List.range (m_fn ci)).map (fun k => m_v G (m_f h ci a k))).set k (m_v G v))) = m_ws G h' :=
    m_ws_set (by rw [hkd]) (by rw [m_E_o ho' hc, m_o_set hk (by rw [hv]) hne]) (hE G)
  have hgo : ∀ (H1 : Heap) (locs1 : List Loc), va_P G.2.1 vwCl ((m_ws G h).set a (G.1 + a, .inr (ci, ((List.range (m_fn ci)).map (fun k => m_v G (m_f h ci a k))).set k (m_v G v)))) H1 → va_D (m_A G) ((m_ws G h).set a (G.1 + a, .inr (ci, ((List.range (m_fn ci)).map (fun k => m_v G (m_f h ci a k))).set k (m_v G v)))) → va_S (m_A G) s.heap H1 locs1 → W p l e (m_R K.2.2.2.2.2.1 K.2.2.2.2.2.2.1 K.2.2.2.2.2.2.2) s m args below meth c H1 locs1 z.1 z.2 (MQ below (m_Q G n0 K.2.2.2.2.2.2.1 Q) args s K.2.2.2.2.2.2.1 K.2.2.2.2.2.2.2 (m_A G)) (F0 m (pc + 3) ls (m_st G rest)) := by
    intro H1 locs1 hP1 _ hS1
    rw [hset] at hP1
    exact kk p l e s m args below meth c G H1 locs1 ls n0 hC ⟨hP1, by rw [hkd]; exact hI.2⟩ hS1 hlv hz (by rw [hkd]; exact hn)
  rcases hfin with hfin | ⟨hfin, hin, hdecl⟩
  · exact va_put hC.1 hC.2.1 hC.2.2.2.2.1 (m_inB hc) (m_ty ci) (m_tyok hc) (m_nmok hc) hC.2.2.2.1 hC.2.2.2.2.2.1.1 hI.1 (m_D G h) hS a (ci := ci) ((m_ws_at G h ho.1).trans (by rw [m_E_o ho hc])) (m_cl hc) k hk (hC.2.2.2.2.1 _ hl) (fun x hx => hx) hfin (m_tyok hc k hk) (hn1 G) (hf1 G) (by simp [hk]) hd hgo
  · exact va_putF hC.1 hC.2.1 hC.2.2.2.2.1 (m_inB hc) (m_ty ci) (m_tyok hc) (m_nmok hc) hC.2.2.2.1 hC.2.2.2.2.2.1.1 hI.1 (m_D G h) hS a (ci := ci) ((m_ws_at G h ho.1).trans (by rw [m_E_o ho hc])) (m_cl hc) k hk (hC.2.2.2.2.1 _ hl) (fun x hx => hx) hfin (hC.2.2.2.2.2.2.2.2.1.trans hin) hdecl (m_tyok hc k hk) (hn1 G) (hf1 G) (by simp [hk]) hd hgo
/-- an int or boolean field is written; ok: it fits -/
theorem mw_puti {a idx : Nat} {x : Int32} (ci k : Nat) (hd : decode K.2.1 pc = .ok (.putfield idx, 3)) (hl : Cond.fieldLink K.1 idx (m_T ci k).1 (m_T ci k).2.1 (m_T ci k).2.2.1 ∈ m_tb) (hc : ci < 13) (hk : k < m_fn ci) (ht : m_tg (m_ty ci k) = 0) (hfin : (m_T ci k).2.2.2 = false) (ho : m_O h a ci) (hok : narrow (m_ty ci k) (.int x) = .int x ∧ fits (m_ty ci k) (.int x) = true) (kk : MW K (pc + 3) z lv rest (m_si h a k x) Q) : MW K pc z lv (.int x :: .ref a :: rest) h Q :=
  mw_putv (h' := m_si h a k x) ci k hd hl hc hk ho (Or.inl hfin) (fun _ => hok.1) (fun _ => hok.2) (by simp [m_f, ht, m_si]) (fun k' hk' => by simp [m_f, m_si, hk']) (fun G i hi => m_E_congr (by funext j; simp [m_si, hi]) rfl rfl rfl) rfl kk
theorem mw_putl {a idx : Nat} {x : Int64} (ci k : Nat) (hd : decode K.2.1 pc = .ok (.putfield idx, 3)) (hl : Cond.fieldLink K.1 idx (m_T ci k).1 (m_T ci k).2.1 (m_T ci k).2.2.1 ∈ m_tb) (hc : ci < 13) (hk : k < m_fn ci) (ht : m_ty ci k = .long) (hfin : (m_T ci k).2.2.2 = false) (ho : m_O h a ci) (kk : MW K (pc + 3) z lv rest (m_sj h a k x) Q) : MW K pc z lv (.long x :: .ref a :: rest) h Q :=
  mw_putv (h' := m_sj h a k x) ci k hd hl hc hk ho (Or.inl hfin) (fun _ => by rw [ht]; rfl) (fun _ => by rw [ht]; rfl) (by simp [m_f, ht, m_tg, m_sj]) (fun k' hk' => by simp [m_f, m_sj, hk']) (fun G i hi => m_E_congr rfl (by funext j; simp [m_sj, hi]) rfl rfl) rfl kk
theorem m_nr {ty : FieldType} (h : m_tg ty = 2) (G : m_G) (b : Nat) : narrow ty (m_v G (.ref b)) = m_v G (.ref b) ∧ fits ty (m_v G (.ref b)) = true := by
  cases ty <;> simp_all [m_tg] <;> exact ⟨rfl, rfl⟩
theorem mw_putr {a b idx : Nat} (ci k : Nat) (hd : decode K.2.1 pc = .ok (.putfield idx, 3)) (hl : Cond.fieldLink K.1 idx (m_T ci k).1 (m_T ci k).2.1 (m_T ci k).2.2.1 ∈ m_tb) (hc : ci < 13) (hk : k < m_fn ci) (ht : m_tg (m_ty ci k) = 2) (hfin : (m_T ci k).2.2.2 = false ∨ ((m_T ci k).2.2.2 = true ∧ K.2.2.2.2.1 = "<init>" ∧ (m_T ci k).1 = K.1)) (ho : m_O h a ci) (kk : MW K (pc + 3) z lv rest (m_sr h a k (some b)) Q) : MW K pc z lv (.ref b :: .ref a :: rest) h Q :=
  mw_putv (h' := m_sr h a k (some b)) ci k hd hl hc hk ho hfin (fun G => (m_nr ht G b).1) (fun G => (m_nr ht G b).2) (by simp [m_f, ht, m_sr, m_rv]) (fun k' hk' => by simp [m_f, m_sr, hk']) (fun G i hi => m_E_congr rfl rfl (by funext j; simp [m_sr, hi]) rfl) rfl kk
end MH
