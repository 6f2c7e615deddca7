section MA
variable {K : m_K} {pc : Nat} {z : Nat × Nat} {lv : List (Nat × Value)} {rest : List Value} {h : m_H} {Q : Option Value → m_H → Prop} {a n : Nat}
theorem m_st2 (G : m_G) {i : Int32} {a N : Nat} (ha : a < N) (hN : N ≤ 1000000) (rest : List Value) : m_st G (.int i :: .ref a :: rest) = .int i :: .ref (G.1 + a) :: m_st G rest := by
  simp [m_st, m_v, m_ad_at G ha hN]
theorem m_st3 (G : m_G) {v : Value} {i : Int32} {a N : Nat} (ha : a < N) (hN : N ≤ 1000000) (rest : List Value) : m_st G (v :: .int i :: .ref a :: rest) = m_v G v :: .int i :: .ref (G.1 + a) :: m_st G rest := by
  simp [m_st, m_v, m_ad_at G ha hN]
theorem mw_alen {t : Nat} (ht : t < 6) (hd : decode K.2.1 pc = .ok (.arraylength, 1)) (ha : m_Ar h a t n) (kk : MW K (pc + 1) z lv (.int (nI n) :: rest) h Q) : MW K pc z lv (.ref a :: rest) h Q := by
  intro p l e s m args below meth c G H locs ls n0 hC hI hS hlv hz hn
  have hst : m_st G (.ref a :: rest) = .ref (G.1 + a) :: m_st G rest := by simp [m_st, m_v, m_ad_at G ha.1 hI.2]
  rw [hst]
  have hk := kk p l e s m args below meth c G H locs ls n0 hC hI hS hlv hz hn
  by_cases h1 : t = 1
  · subst h1
    exact va_alen hC.1 hC.2.1 hC.2.2.2.2.2.1.1 hI.1 a 1 (x := (n, .inr (.inl (h.2.1 a)))) ((m_ws_at G h ha.1).trans (by rw [m_E_l ha])) (ty := .long) rfl rfl hd hk
  · by_cases h4 : t < 4
    · refine va_alen hC.1 hC.2.1 hC.2.2.2.2.2.1.1 hI.1 a t (x := (n, .inl (h.1 a))) ((m_ws_at G h ha.1).trans (by rw [m_E_i ha h1 h4])) (ty := if t = 0 then .int else if t = 2 then .byte else .boolean) ?_ rfl hd hk
      match t, h1, h4 with
      | 0, _, _ => rfl
      | 2, _, _ => rfl
      | 3, _, _ => rfl
    · refine va_alen hC.1 hC.2.1 hC.2.2.2.2.2.1.1 hI.1 a t (x := (n, .inr (.inr (.inr (.inr (fun j => (h.2.2.1 a j).map (m_ad G))))))) ((m_ws_at G h ha.1).trans (by rw [m_E_r ha (by omega)])) (ty := if t = 4 then .object RX8 else .object RX4) ?_ rfl hd hk
      match t, ht, h4 with
      | 4, _, _ => rfl
      | 5, _, _ => rfl
      | 0, _, h4 => exact absurd (by decide) h4
      | 1, _, h4 => exact absurd (by decide) h4
      | 2, _, h4 => exact absurd (by decide) h4
      | 3, _, h4 => exact absurd (by decide) h4
theorem mw_iald {i : Int32} (hd : decode K.2.1 pc = .ok (.iaload, 1)) (ha : m_Ar h a 0 n) (hi : vp_in i n) (kk : MW K (pc + 1) z lv (.int (h.1 a i.toNatClampNeg) :: rest) h Q) : MW K pc z lv (.int i :: .ref a :: rest) h Q := by
  intro p l e s m args below meth c G H locs ls n0 hC hI hS hlv hz hn
  rw [m_st2 G ha.1 hI.2]
  exact va_iald hC.1 hC.2.1 hC.2.2.2.2.2.1.1 hI.1 a 0 ((m_ws_at G h ha.1).trans (by rw [m_E_i ha (by decide) (by decide)])) rfl hi hd (kk p l e s m args below meth c G H locs ls n0 hC hI hS hlv hz hn)
theorem mw_bald {i : Int32} (hd : decode K.2.1 pc = .ok (.baload, 1)) (ha : m_Ar h a 2 n) (hi : vp_in i n) (kk : MW K (pc + 1) z lv (.int (h.1 a i.toNatClampNeg) :: rest) h Q) : MW K pc z lv (.int i :: .ref a :: rest) h Q := by
  intro p l e s m args below meth c G H locs ls n0 hC hI hS hlv hz hn
  rw [m_st2 G ha.1 hI.2]
  exact va_bald hC.1 hC.2.1 hC.2.2.2.2.2.1.1 hI.1 a 2 ((m_ws_at G h ha.1).trans (by rw [m_E_i ha (by decide) (by decide)])) rfl hi hd (kk p l e s m args below meth c G H locs ls n0 hC hI hS hlv hz hn)
theorem mw_zald {i : Int32} (hd : decode K.2.1 pc = .ok (.baload, 1)) (ha : m_Ar h a 3 n) (hi : vp_in i n) (kk : MW K (pc + 1) z lv (.int (h.1 a i.toNatClampNeg) :: rest) h Q) : MW K pc z lv (.int i :: .ref a :: rest) h Q := by
  intro p l e s m args below meth c G H locs ls n0 hC hI hS hlv hz hn
  rw [m_st2 G ha.1 hI.2]
  exact va_zald hC.1 hC.2.1 hC.2.2.2.2.2.1.1 hI.1 a 3 ((m_ws_at G h ha.1).trans (by rw [m_E_i ha (by decide) (by decide)])) rfl hi hd (kk p l e s m args below meth c G H locs ls n0 hC hI hS hlv hz hn)
theorem mw_lald {i : Int32} (hd : decode K.2.1 pc = .ok (.laload, 1)) (ha : m_Ar h a 1 n) (hi : vp_in i n) (kk : MW K (pc + 1) z lv (.long (h.2.1 a i.toNatClampNeg) :: rest) h Q) : MW K pc z lv (.int i :: .ref a :: rest) h Q := by
  intro p l e s m args below meth c G H locs ls n0 hC hI hS hlv hz hn
  rw [m_st2 G ha.1 hI.2]
  exact va_lald hC.1 hC.2.1 hC.2.2.2.2.2.1.1 hI.1 a 1 ((m_ws_at G h ha.1).trans (by rw [m_E_l ha])) rfl hi hd (kk p l e s m args below meth c G H locs ls n0 hC hI hS hlv hz hn)
theorem mw_aald {t b : Nat} {i : Int32} (ht : t = 4 ∨ t = 5) (hd : decode K.2.1 pc = .ok (.aaload, 1)) (ha : m_Ar h a t n) (hi : vp_in i n) (hb : h.2.2.1 a i.toNatClampNeg = some b) (kk : MW K (pc + 1) z lv (.ref b :: rest) h Q) : MW K pc z lv (.int i :: .ref a :: rest) h Q := by
  intro p l e s m args below meth c G H locs ls n0 hC hI hS hlv hz hn
  rw [m_st2 G ha.1 hI.2]
  have hk := kk p l e s m args below meth c G H locs ls n0 hC hI hS hlv hz hn
  have hv : m_st G (.ref b :: rest) = va_rf ((fun j => (h.2.2.1 a j).map (m_ad G)) i.toNatClampNeg) :: m_st G rest := by simp [hb, m_st, m_v, va_rf]
  rw [hv] at hk
  rcases ht with rfl | rfl
  · exact va_aldq hC.1 hC.2.1 hC.2.2.2.2.2.1.1 hI.1 a 4 ((m_ws_at G h ha.1).trans (by rw [m_E_r ha (by decide)])) (C := RX8) rfl hi hd hk
  · exact va_aldq hC.1 hC.2.1 hC.2.2.2.2.2.1.1 hI.1 a 5 ((m_ws_at G h ha.1).trans (by rw [m_E_r ha (by decide)])) (C := RX4) rfl hi hd hk
theorem m_upd_i (h : m_H) (a i : Nat) (x : Int32) : upd (h.1 a) i x = (m_si h a i x).1 a := by
  funext j
  simp [upd, m_si]
theorem m_ws_i {G : m_G} {t : Nat} (ha : m_Ar h a t n) (ht : t ≠ 1) (h4 : t < 4) (i : Nat) (x : Int32) : (m_ws G h).set a (G.1 + a, .inl (G.2.2.1 t, n, .inl (upd (h.1 a) i x))) = m_ws G (m_si h a i x) :=
  m_ws_set rfl (by rw [m_E_i (h := m_si h a i x) (t := t) (n := n) ha ht h4, m_upd_i]) (fun j hj => m_E_congr (by funext k; simp [m_si, hj]) rfl rfl rfl)
theorem mw_iast {i x : Int32} (hd : decode K.2.1 pc = .ok (.iastore, 1)) (ha : m_Ar h a 0 n) (hi : vp_in i n) (kk : MW K (pc + 1) z lv rest (m_si h a i.toNatClampNeg x) Q) : MW K pc z lv (.int x :: .int i :: .ref a :: rest) h Q := by
  intro p l e s m args below meth c G H locs ls n0 hC hI hS hlv hz hn
  rw [m_st3 G ha.1 hI.2]
  refine va_iast hC.1 hC.2.1 hC.2.2.2.2.2.1.1 hI.1 (m_D G h) hS a 0 ((m_ws_at G h ha.1).trans (by rw [m_E_i ha (by decide) (by decide)])) rfl hi hd (fun H1 locs1 hP1 _ hS1 => ?_)
  rw [m_ws_i ha (by decide) (by decide)] at hP1
  exact kk p l e s m args below meth c G H1 locs1 ls n0 hC ⟨hP1, hI.2⟩ hS1 hlv hz hn
theorem mw_bast {i x : Int32} (hd : decode K.2.1 pc = .ok (.bastore, 1)) (ha : m_Ar h a 2 n) (hi : vp_in i n) (kk : MW K (pc + 1) z lv rest (m_si h a i.toNatClampNeg x.toInt8.toInt32) Q) : MW K pc z lv (.int x :: .int i :: .ref a :: rest) h Q := by
  intro p l e s m args below meth c G H locs ls n0 hC hI hS hlv hz hn
  rw [m_st3 G ha.1 hI.2]
  refine va_bast hC.1 hC.2.1 hC.2.2.2.2.2.1.1 hI.1 (m_D G h) hS a 2 ((m_ws_at G h ha.1).trans (by rw [m_E_i ha (by decide) (by decide)])) rfl hi hd (fun H1 locs1 hP1 _ hS1 => ?_)
  rw [m_ws_i ha (by decide) (by decide)] at hP1
  exact kk p l e s m args below meth c G H1 locs1 ls n0 hC ⟨hP1, hI.2⟩ hS1 hlv hz hn
theorem mw_zast {i x : Int32} (hd : decode K.2.1 pc = .ok (.bastore, 1)) (ha : m_Ar h a 3 n) (hi : vp_in i n) (hx : x = 0 ∨ x = 1) (kk : MW K (pc + 1) z lv rest (m_si h a i.toNatClampNeg x) Q) : MW K pc z lv (.int x :: .int i :: .ref a :: rest) h Q := by
  intro p l e s m args below meth c G H locs ls n0 hC hI hS hlv hz hn
  rw [m_st3 G ha.1 hI.2]
  refine va_zast hC.1 hC.2.1 hC.2.2.2.2.2.1.1 hI.1 (m_D G h) hS a 3 ((m_ws_at G h ha.1).trans (by rw [m_E_i ha (by decide) (by decide)])) rfl hi hd (fun H1 locs1 hP1 _ hS1 => ?_)
  have hnx : vp_nar .boolean x = x := by rcases hx with rfl | rfl <;> decide +kernel
  rw [hnx, m_ws_i ha (by decide) (by decide)] at hP1
  exact kk p l e s m args below meth c G H1 locs1 ls n0 hC ⟨hP1, hI.2⟩ hS1 hlv hz hn
theorem mw_last {i : Int32} {x : Int64} (hd : decode K.2.1 pc = .ok (.lastore, 1)) (ha : m_Ar h a 1 n) (hi : vp_in i n) (kk : MW K (pc + 1) z lv rest (m_sj h a i.toNatClampNeg x) Q) : MW K pc z lv (.long x :: .int i :: .ref a :: rest) h Q := by
  intro p l e s m args below meth c G H locs ls n0 hC hI hS hlv hz hn
  rw [m_st3 G ha.1 hI.2]
  refine va_last hC.1 hC.2.1 hC.2.2.2.2.2.1.1 hI.1 (m_D G h) hS a 1 ((m_ws_at G h ha.1).trans (by rw [m_E_l ha])) rfl hi hd (fun H1 locs1 hP1 _ hS1 => ?_)
  have hset : (m_ws G h).set a (G.1 + a, .inl (G.2.2.1 1, n, .inr (.inl (vp_updL (h.2.1 a) i.toNatClampNeg x)))) = m_ws G (m_sj h a i.toNatClampNeg x) :=
    m_ws_set rfl (by rw [m_E_l (h := m_sj h a i.toNatClampNeg x) (n := n) ha]; congr; funext j; simp [m_sj, vp_updL]) (fun j hj => m_E_congr rfl (by funext k; simp [m_sj, hj]) rfl rfl)
  rw [hset] at hP1
  exact kk p l e s m args below meth c G H1 locs1 ls n0 hC ⟨hP1, hI.2⟩ hS1 hlv hz hn
theorem mw_aast {t b ci : Nat} {i : Int32} (ht : (t = 4 ∧ ci = 8) ∨ (t = 5 ∧ ci = 4)) (hd : decode K.2.1 pc = .ok (.aastore, 1)) (ha : m_Ar h a t n) (hi : vp_in i n) (hb : m_O h b ci) (kk : MW K (pc + 1) z lv rest (m_sr h a i.toNatClampNeg (some b)) Q) : MW K pc z lv (.ref b :: .int i :: .ref a :: rest) h Q := by
  intro p l e s m args below meth c G H locs ls n0 hC hI hS hlv hz hn
  rw [m_st3 G ha.1 hI.2]
  have hvb : m_v G (.ref b) = .ref (G.1 + b) := by simp [m_v, m_ad_at G hb.1 hI.2]
  rw [hvb]
  have hset : ∀ t, 4 ≤ t → m_Ar h a t n → (m_ws G h).set a (G.1 + a, .inl (G.2.2.1 t, n, .inr (.inr (.inr (.inr (va_up (fun j => (h.2.2.1 a j).map (m_ad G)) i.toNatClampNeg (some (G.1 + b)))))))) = m_ws G (m_sr h a i.toNatClampNeg (some b)) := by
    intro t h4 ha
    refine m_ws_set rfl ?_ (fun j hj => m_E_congr rfl rfl (by funext k; simp [m_sr, hj]) rfl)
    rw [m_E_r (h := m_sr h a i.toNatClampNeg (some b)) (t := t) (n := n) ha h4]
    have hf : (fun j => ((m_sr h a i.toNatClampNeg (some b)).2.2.1 a j).map (m_ad G)) = va_up (fun j => (h.2.2.1 a j).map (m_ad G)) i.toNatClampNeg (some (G.1 + b)) := by
      funext j
      by_cases hj : j = i.toNatClampNeg
      · simp [m_sr, va_up, hj, m_ad_at G hb.1 hI.2]
      · simp [m_sr, va_up, hj]
    rw [hf]
  rcases ht with ⟨rfl, rfl⟩ | ⟨rfl, rfl⟩
  · refine va_astq hC.1 hC.2.1 hC.2.2.2.2.2.1.1 hI.1 (m_D G h) hS a 4 b 8 (r := (RX8, TX8, 14)) ((m_ws_at G h ha.1).trans (by rw [m_E_r ha (by decide)])) rfl ((m_ws_at G h hb.1).trans (by rw [m_E_o hb (by decide)])) rfl hi hd (fun H1 locs1 hP1 _ hS1 => ?_)
    rw [hset 4 (by decide) ha] at hP1
    exact kk p l e s m args below meth c G H1 locs1 ls n0 hC ⟨hP1, hI.2⟩ hS1 hlv hz hn
  · refine va_astq hC.1 hC.2.1 hC.2.2.2.2.2.1.1 hI.1 (m_D G h) hS a 5 b 4 (r := (RX4, TX4, 4)) ((m_ws_at G h ha.1).trans (by rw [m_E_r ha (by decide)])) rfl ((m_ws_at G h hb.1).trans (by rw [m_E_o hb (by decide)])) rfl hi hd (fun H1 locs1 hP1 _ hS1 => ?_)
    rw [hset 5 (by decide) ha] at hP1
    exact kk p l e s m args below meth c G H1 locs1 ls n0 hC ⟨hP1, hI.2⟩ hS1 hlv hz hn
end MA
section MRT
variable {K : m_K} {pc : Nat} {z : Nat × Nat} {lv : List (Nat × Value)} {h : m_H} {Q : Option Value → m_H → Prop}
theorem m_ret {G : m_G} {n0 : Nat} {s : State} {args : Array Value} {H : Heap} {locs : List Loc} {r : Option Value} {v : Option Value} (hI : m_In G h H) (hS : va_S (m_A G) s.heap H locs) (hq : Q r h) (hv : v = r.map (m_v G)) {mc : Nat} (hn : h.2.2.2.2 = n0 + mc) :
    ∀ t : State, t.heap = H → s.WarmedH t.vm → m_Q G n0 mc Q args s (.returned v) t := fun t ht _ => ⟨⟨r, h, hq, by rw [hv], by rw [ht]; exact hI, hn⟩, hS.F ht⟩
theorem mw_ireturn {x : Int32} {ty : FieldType} (hd : decode K.2.1 pc = .ok (.ireturn, 1)) (hr : K.2.2.2.1 = some ty) (hx : narrow ty (.int x) = .int x) (hz : z.1 = K.2.2.2.2.2.2.1 ∧ z.2 = K.2.2.2.2.2.2.2) (hq : Q (some (.int x)) h) : MW K pc z lv [.int x] h Q := by
  intro p l e s m args below meth c G H locs ls n0 hC hI hS hlv hz0 hn
  rw [← hz.1, ← hz.2]
  exact W.zret hC.1 hC.2.1 (hC.2.2.2.2.2.2.1.trans hr) hx (m_ret hI hS hq rfl hn) hS.2.2 hd hC.2.2.2.2.2.2.2.1
theorem mw_lreturn {x : Int64} (hd : decode K.2.1 pc = .ok (.lreturn, 1)) (hr : K.2.2.2.1 = some .long) (hz : z.1 = K.2.2.2.2.2.2.1 ∧ z.2 = K.2.2.2.2.2.2.2) (hq : Q (some (.long x)) h) : MW K pc z lv [.long x] h Q := by
  intro p l e s m args below meth c G H locs ls n0 hC hI hS hlv hz0 hn
  rw [← hz.1, ← hz.2]
  exact W.lret hC.1 hC.2.1 (hC.2.2.2.2.2.2.1.trans hr) (m_ret hI hS hq rfl hn) hS.2.2 hd hC.2.2.2.2.2.2.2.1
theorem mw_areturn {a : Nat} {ty : FieldType} (hd : decode K.2.1 pc = .ok (.areturn, 1)) (hr : K.2.2.2.1 = some ty) (ht : (∃ n, ty = .object n) ∨ ∃ t, ty = .array t) (hz : z.1 = K.2.2.2.2.2.2.1 ∧ z.2 = K.2.2.2.2.2.2.2) (hq : Q (some (.ref a)) h) : MW K pc z lv [.ref a] h Q := by
  intro p l e s m args below meth c G H locs ls n0 hC hI hS hlv hz0 hn
  rw [← hz.1, ← hz.2]
  exact W.aret hC.1 hC.2.1 (hC.2.2.2.2.2.2.1.trans hr) ht (Or.inr ⟨_, rfl⟩) (m_ret hI hS hq rfl hn) hS.2.2 hd hC.2.2.2.2.2.2.2.1
theorem mw_return (hd : decode K.2.1 pc = .ok (.return_, 1)) (hr : K.2.2.2.1 = none) (hz : z.1 = K.2.2.2.2.2.2.1 ∧ z.2 = K.2.2.2.2.2.2.2) (hq : Q none h) : MW K pc z lv [] h Q := by
  intro p l e s m args below meth c G H locs ls n0 hC hI hS hlv hz0 hn
  rw [← hz.1, ← hz.2]
  exact W.vret hC.1 hC.2.1 (hC.2.2.2.2.2.2.1.trans hr) (m_ret hI hS hq rfl hn) hS.2.2 hd hC.2.2.2.2.2.2.2.1
theorem mw_lcmp {x y : Int64} {rest : List Value} (hd : decode K.2.1 pc = .ok (.lcmp, 1)) (k : MW K (pc + 1) z lv (.int (lg_cmp x y) :: rest) h Q) : MW K pc z lv (.long y :: .long x :: rest) h Q := mw_lift (fun p l e R s m args below meth c G H locs cells slots Z ls hC hl kk => W.lcmp hC.1 hC.2.1 hd kk) k
end MRT
