/-! the machine in any room, towards any end, over the same worlds -/
abbrev g_C : Type := Program × Launch × Env × Room × State × MethodId × Array Value × List Frame × Method × Code × m_G × (State → Prop)
abbrev g_p (g : g_C) : Program := g.1
abbrev g_l (g : g_C) : Launch := g.2.1
abbrev g_e (g : g_C) : Env := g.2.2.1
abbrev g_R (g : g_C) : Room := g.2.2.2.1
abbrev g_s (g : g_C) : State := g.2.2.2.2.1
abbrev g_m (g : g_C) : MethodId := g.2.2.2.2.2.1
abbrev g_a (g : g_C) : Array Value := g.2.2.2.2.2.2.1
abbrev g_b (g : g_C) : List Frame := g.2.2.2.2.2.2.2.1
abbrev g_k (g : g_C) : Method := g.2.2.2.2.2.2.2.2.1
abbrev g_c (g : g_C) : Code := g.2.2.2.2.2.2.2.2.2.1
abbrev g_G (g : g_C) : m_G := g.2.2.2.2.2.2.2.2.2.2.1
abbrev g_Z (g : g_C) : State → Prop := g.2.2.2.2.2.2.2.2.2.2.2
def GW (K : m_K) (g : g_C) (pc : Nat) (z : Nat × Nat) (lv : List (Nat × Value)) (st : List Value) (h : m_H) : Prop := ∀ (H : Heap) (locs : List Loc) (ls : Array Slot), m_In (g_G g) h H → va_S (m_A (g_G g)) (g_s g).heap H locs → lv_has ls K.2.2.1 (m_lv (g_G g) lv) →
  W (g_p g) (g_l g) (g_e g) (g_R g) (g_s g) (g_m g) (g_a g) (g_b g) (g_k g) (g_c g) H locs z.1 z.2 (g_Z g) (F0 (g_m g) pc ls (m_st (g_G g) st))
def gC (K : m_K) (g : g_C) : Prop := m_C (g_p g) (g_s g) (g_m g) (g_a g) (g_k g) (g_c g) K (g_G g)
section GWR
variable {K : m_K} {g : g_C} {pc : Nat} {z : Nat × Nat} {lv : List (Nat × Value)} {rest : List Value} {h : m_H}
theorem gw_lift {pc' : Nat} {st st' : List Value} (f : ∀ (H : Heap) (locs : List Loc) (cells slots : Nat) (ls : Array Slot), lv_has ls K.2.2.1 (m_lv (g_G g) lv) → W (g_p g) (g_l g) (g_e g) (g_R g) (g_s g) (g_m g) (g_a g) (g_b g) (g_k g) (g_c g) H locs cells slots (g_Z g) (F0 (g_m g) pc' ls (m_st (g_G g) st')) → W (g_p g) (g_l g) (g_e g) (g_R g) (g_s g) (g_m g) (g_a g) (g_b g) (g_k g) (g_c g) H locs cells slots (g_Z g) (F0 (g_m g) pc ls (m_st (g_G g) st))) (k : GW K g pc' z lv st' h) : GW K g pc z lv st h :=
  fun H locs ls hI hS hl => f H locs _ _ ls hl (k H locs ls hI hS hl)
theorem gw_top {x x' : Int32} (e : x = x') (k : GW K g pc z lv (.int x' :: rest) h) : GW K g pc z lv (.int x :: rest) h := e ▸ k
theorem gw_sub {lv' : List (Nat × Value)} {st : List Value} (ks : List Nat) (he : lv_pick lv ks = lv') (k : GW K g pc z lv' st h) : GW K g pc z lv st h :=
  fun H locs ls hI hS hl => k H locs ls hI hS (lv_sub hl ks (by rw [m_pick, he]))
theorem gw_widen {z' : Nat × Nat} {st : List Value} (h1 : z.1 ≤ z'.1) (h2 : z.2 ≤ z'.2) (k : GW K g pc z' lv st h) : GW K g pc z lv st h := fun H locs ls hI hS hl => W.widen h1 h2 (k H locs ls hI hS hl)
theorem gw_in {h' : m_H} {st : List Value} (hI0 : ∀ H : Heap, m_In (g_G g) h H → m_In (g_G g) h' H) (k : GW K g pc z lv st h') : GW K g pc z lv st h := fun H locs ls hI hS hl => k H locs ls (hI0 H hI) hS hl
theorem gw_iconst (hC : gC K g) {n : Int} {v : Int32} (hd : decode K.2.1 pc = .ok (.iconst n, 1)) (hv : Int32.ofInt n = v) (k : GW K g (pc + 1) z lv (.int v :: rest) h) : GW K g pc z lv (rest) h := gw_lift (fun H locs cells slots ls hl kk => lv_iconst hC.1 hC.2.1 hd hv kk) k
theorem gw_bipush (hC : gC K g) {n : Int} {v : Int32} (hd : decode K.2.1 pc = .ok (.bipush n, 2)) (hv : (Int8.ofInt n).toInt32 = v) (k : GW K g (pc + 2) z lv (.int v :: rest) h) : GW K g pc z lv (rest) h := gw_lift (fun H locs cells slots ls hl kk => lv_bipush hC.1 hC.2.1 hd hv kk) k
theorem gw_iload (hC : gC K g) (j : Nat) {i : Nat} {x : Int32} (hd : decode K.2.1 pc = .ok (.iload i, 2)) (hj : lv[j]? = some (i, .int x)) (k : GW K g (pc + 2) z lv (.int x :: rest) h) : GW K g pc z lv (rest) h := gw_lift (fun H locs cells slots ls hl kk => lv_iload hC.1 hC.2.1 hd (mw_at (g_G g) hl hj) kk) k
theorem gw_iload_n (hC : gC K g) (j : Nat) {i : Fin 4} {x : Int32} (hd : decode K.2.1 pc = .ok (.iload_n i, 1)) (hj : lv[j]? = some ((i : Nat), .int x)) (k : GW K g (pc + 1) z lv (.int x :: rest) h) : GW K g pc z lv (rest) h := gw_lift (fun H locs cells slots ls hl kk => lv_iload_n hC.1 hC.2.1 hd rfl (mw_at (g_G g) hl hj) kk) k
theorem gw_aload (hC : gC K g) (j : Nat) {i a : Nat} (hd : decode K.2.1 pc = .ok (.aload i, 2)) (hj : lv[j]? = some (i, .ref a)) (k : GW K g (pc + 2) z lv (.ref a :: rest) h) : GW K g pc z lv (rest) h := gw_lift (fun H locs cells slots ls hl kk => lv_aload hC.1 hC.2.1 hd (mw_at (g_G g) hl hj) kk) k
theorem gw_aload_n (hC : gC K g) (j : Nat) {i : Fin 4} {a : Nat} (hd : decode K.2.1 pc = .ok (.aload_n i, 1)) (hj : lv[j]? = some ((i : Nat), .ref a)) (k : GW K g (pc + 1) z lv (.ref a :: rest) h) : GW K g pc z lv (rest) h := gw_lift (fun H locs cells slots ls hl kk => lv_aload_n hC.1 hC.2.1 hd rfl (mw_at (g_G g) hl hj) kk) k
theorem gw_iadd (hC : gC K g) {x y : Int32} (hd : decode K.2.1 pc = .ok (.iadd, 1)) (k : GW K g (pc + 1) z lv (.int (x + y) :: rest) h) : GW K g pc z lv (.int y :: .int x :: rest) h := gw_lift (fun H locs cells slots ls hl kk => lv_iadd hC.1 hC.2.1 hd kk) k
theorem gw_isub (hC : gC K g) {x y : Int32} (hd : decode K.2.1 pc = .ok (.isub, 1)) (k : GW K g (pc + 1) z lv (.int (x - y) :: rest) h) : GW K g pc z lv (.int y :: .int x :: rest) h := gw_lift (fun H locs cells slots ls hl kk => lv_isub hC.1 hC.2.1 hd kk) k
theorem gw_iand (hC : gC K g) {x y : Int32} (hd : decode K.2.1 pc = .ok (.iand, 1)) (k : GW K g (pc + 1) z lv (.int (x &&& y) :: rest) h) : GW K g pc z lv (.int y :: .int x :: rest) h := gw_lift (fun H locs cells slots ls hl kk => lv_iand hC.1 hC.2.1 hd kk) k
theorem gw_i2l (hC : gC K g) {x : Int32} (hd : decode K.2.1 pc = .ok (.i2l, 1)) (k : GW K g (pc + 1) z lv (.long x.toInt64 :: rest) h) : GW K g pc z lv (.int x :: rest) h := gw_lift (fun H locs cells slots ls hl kk => lv_i2l hC.1 hC.2.1 hd rfl kk) k
theorem gw_dup (hC : gC K g) {v : Value} (hd : decode K.2.1 pc = .ok (.dup, 1)) (hv : v.category = 1) (k : GW K g (pc + 1) z lv (v :: v :: rest) h) : GW K g pc z lv (v :: rest) h := gw_lift (fun H locs cells slots ls hl kk => lv_dup hC.1 hC.2.1 hd ((m_cat (g_G g) v).trans hv) kk) k
theorem gw_pop (hC : gC K g) {v : Value} (hd : decode K.2.1 pc = .ok (.pop, 1)) (hv : v.category = 1) (k : GW K g (pc + 1) z lv (rest) h) : GW K g pc z lv (v :: rest) h := gw_lift (fun H locs cells slots ls hl kk => lv_pop hC.1 hC.2.1 hd ((m_cat (g_G g) v).trans hv) kk) k
theorem gw_goto (hC : gC K g) {off : Int} {tgt : Nat} (hd : decode K.2.1 pc = .ok (.goto off, 3)) (ht : (pc : Int) + off = (tgt : Int)) (k : GW K g tgt z lv rest h) : GW K g pc z lv rest h := gw_lift (fun H locs cells slots ls hl kk => lv_goto hC.1 hC.2.1 hd ht kk) k
theorem gw_if_eq (hC : gC K g) {x : Int32} {off : Int} {tgt : Nat} (hd : decode K.2.1 pc = .ok (.ifCond .eq off, 3)) (ht : (pc : Int) + off = (tgt : Int)) (kt : x = 0 → GW K g tgt z lv rest h) (kf : ¬ x = 0 → GW K g (pc + 3) z lv rest h) : GW K g pc z lv (.int x :: rest) h := fun H locs ls hI hS hl => lv_if_eq hC.1 hC.2.1 hd ht (fun q => kt q H locs ls hI hS hl) (fun q => kf q H locs ls hI hS hl)
theorem gw_icmp_eq (hC : gC K g) {x y : Int32} {off : Int} {tgt : Nat} (hd : decode K.2.1 pc = .ok (.if_icmp .eq off, 3)) (ht : (pc : Int) + off = (tgt : Int)) (kt : x = y → GW K g tgt z lv rest h) (kf : ¬ x = y → GW K g (pc + 3) z lv rest h) : GW K g pc z lv (.int y :: .int x :: rest) h := fun H locs ls hI hS hl => lv_icmp_eq hC.1 hC.2.1 hd ht (fun q => kt q H locs ls hI hS hl) (fun q => kf q H locs ls hI hS hl)
theorem gw_if_ne (hC : gC K g) {x : Int32} {off : Int} {tgt : Nat} (hd : decode K.2.1 pc = .ok (.ifCond .ne off, 3)) (ht : (pc : Int) + off = (tgt : Int)) (kt : ¬ x = 0 → GW K g tgt z lv rest h) (kf : x = 0 → GW K g (pc + 3) z lv rest h) : GW K g pc z lv (.int x :: rest) h := fun H locs ls hI hS hl => lv_if_ne hC.1 hC.2.1 hd ht (fun q => kt q H locs ls hI hS hl) (fun q => kf q H locs ls hI hS hl)
theorem gw_icmp_ne (hC : gC K g) {x y : Int32} {off : Int} {tgt : Nat} (hd : decode K.2.1 pc = .ok (.if_icmp .ne off, 3)) (ht : (pc : Int) + off = (tgt : Int)) (kt : ¬ x = y → GW K g tgt z lv rest h) (kf : x = y → GW K g (pc + 3) z lv rest h) : GW K g pc z lv (.int y :: .int x :: rest) h := fun H locs ls hI hS hl => lv_icmp_ne hC.1 hC.2.1 hd ht (fun q => kt q H locs ls hI hS hl) (fun q => kf q H locs ls hI hS hl)
theorem gw_if_lt (hC : gC K g) {x : Int32} {off : Int} {tgt : Nat} (hd : decode K.2.1 pc = .ok (.ifCond .lt off, 3)) (ht : (pc : Int) + off = (tgt : Int)) (kt : x < 0 → GW K g tgt z lv rest h) (kf : ¬ x < 0 → GW K g (pc + 3) z lv rest h) : GW K g pc z lv (.int x :: rest) h := fun H locs ls hI hS hl => lv_if_lt hC.1 hC.2.1 hd ht (fun q => kt q H locs ls hI hS hl) (fun q => kf q H locs ls hI hS hl)
theorem gw_icmp_lt (hC : gC K g) {x y : Int32} {off : Int} {tgt : Nat} (hd : decode K.2.1 pc = .ok (.if_icmp .lt off, 3)) (ht : (pc : Int) + off = (tgt : Int)) (kt : x < y → GW K g tgt z lv rest h) (kf : ¬ x < y → GW K g (pc + 3) z lv rest h) : GW K g pc z lv (.int y :: .int x :: rest) h := fun H locs ls hI hS hl => lv_icmp_lt hC.1 hC.2.1 hd ht (fun q => kt q H locs ls hI hS hl) (fun q => kf q H locs ls hI hS hl)
theorem gw_icmp_ge (hC : gC K g) {x y : Int32} {off : Int} {tgt : Nat} (hd : decode K.2.1 pc = .ok (.if_icmp .ge off, 3)) (ht : (pc : Int) + off = (tgt : Int)) (kt : y ≤ x → GW K g tgt z lv rest h) (kf : ¬ y ≤ x → GW K g (pc + 3) z lv rest h) : GW K g pc z lv (.int y :: .int x :: rest) h := fun H locs ls hI hS hl => lv_icmp_ge hC.1 hC.2.1 hd ht (fun q => kt q H locs ls hI hS hl) (fun q => kf q H locs ls hI hS hl)
theorem gw_icmp_gt (hC : gC K g) {x y : Int32} {off : Int} {tgt : Nat} (hd : decode K.2.1 pc = .ok (.if_icmp .gt off, 3)) (ht : (pc : Int) + off = (tgt : Int)) (kt : y < x → GW K g tgt z lv rest h) (kf : ¬ y < x → GW K g (pc + 3) z lv rest h) : GW K g pc z lv (.int y :: .int x :: rest) h := fun H locs ls hI hS hl => lv_icmp_gt hC.1 hC.2.1 hd ht (fun q => kt q H locs ls hI hS hl) (fun q => kf q H locs ls hI hS hl)
theorem gw_icmp_le (hC : gC K g) {x y : Int32} {off : Int} {tgt : Nat} (hd : decode K.2.1 pc = .ok (.if_icmp .le off, 3)) (ht : (pc : Int) + off = (tgt : Int)) (kt : x ≤ y → GW K g tgt z lv rest h) (kf : ¬ x ≤ y → GW K g (pc + 3) z lv rest h) : GW K g pc z lv (.int y :: .int x :: rest) h := fun H locs ls hI hS hl => lv_icmp_le hC.1 hC.2.1 hd ht (fun q => kt q H locs ls hI hS hl) (fun q => kf q H locs ls hI hS hl)
theorem gw_tabIn (hC : gC K g) {dflt lo hi : Int} {offs : Array Int} {len : Nat} {x : Int32} {off : Int} {tgt : Nat} (hd : decode K.2.1 pc = .ok (.tableswitch dflt lo hi offs, len)) (h1 : ¬ x.toInt < lo) (h2 : ¬ hi < x.toInt) (ho : offs[(x.toInt - lo).toNat]? = some off) (ht : (pc : Int) + off = (tgt : Int)) (k : GW K g tgt z lv rest h) : GW K g pc z lv (.int x :: rest) h := gw_lift (fun H locs cells slots ls hl kk => lv_tableIn hC.1 hC.2.1 hd h1 h2 ho ht kk) k
theorem gw_tabOut (hC : gC K g) {dflt lo hi : Int} {offs : Array Int} {len : Nat} {x : Int32} {tgt : Nat} (hd : decode K.2.1 pc = .ok (.tableswitch dflt lo hi offs, len)) (hx : x.toInt < lo ∨ hi < x.toInt) (ht : (pc : Int) + dflt = (tgt : Int)) (k : GW K g tgt z lv rest h) : GW K g pc z lv (.int x :: rest) h := gw_lift (fun H locs cells slots ls hl kk => lv_tableOut hC.1 hC.2.1 hd hx ht kk) k
theorem gw_istore (hC : gC K g) {i : Nat} {x : Int32} (lv' : List (Nat × Value)) (hd : decode K.2.1 pc = .ok (.istore i, 2)) (hn : i < K.2.2.1) (he : (i, .int x) :: lv.filter (fun q => !(q.1 == i) && !(q.1 + 1 == i && q.2.category == 2)) = lv') (k : GW K g (pc + 2) z lv' rest h) : GW K g pc z lv (.int x :: rest) h := fun H locs ls hI hS hl => lv_istore hC.1 hC.2.1 hd hl hn (m_flt1 (g_G g) i (.int x) lv).symm (fun ls' hl' => k H locs ls' hI hS (he ▸ hl'))
theorem gw_istore_n (hC : gC K g) {i : Fin 4} {x : Int32} (lv' : List (Nat × Value)) (hd : decode K.2.1 pc = .ok (.istore_n i, 1)) (hn : (i : Nat) < K.2.2.1) (he : ((i : Nat), .int x) :: lv.filter (fun q => !(q.1 == (i : Nat)) && !(q.1 + 1 == (i : Nat) && q.2.category == 2)) = lv') (k : GW K g (pc + 1) z lv' rest h) : GW K g pc z lv (.int x :: rest) h := fun H locs ls hI hS hl => lv_istore_n hC.1 hC.2.1 hd rfl hl hn (m_flt1 (g_G g) (i : Nat) (.int x) lv).symm (fun ls' hl' => k H locs ls' hI hS (he ▸ hl'))
theorem gw_astore (hC : gC K g) {i : Nat} {x : Nat} (lv' : List (Nat × Value)) (hd : decode K.2.1 pc = .ok (.astore i, 2)) (hn : i < K.2.2.1) (he : (i, .ref x) :: lv.filter (fun q => !(q.1 == i) && !(q.1 + 1 == i && q.2.category == 2)) = lv') (k : GW K g (pc + 2) z lv' rest h) : GW K g pc z lv (.ref x :: rest) h := fun H locs ls hI hS hl => lv_astore hC.1 hC.2.1 hd hl hn (m_flt1 (g_G g) i (.ref x) lv).symm (fun ls' hl' => k H locs ls' hI hS (he ▸ hl'))
theorem gw_astore_n (hC : gC K g) {i : Fin 4} {x : Nat} (lv' : List (Nat × Value)) (hd : decode K.2.1 pc = .ok (.astore_n i, 1)) (hn : (i : Nat) < K.2.2.1) (he : ((i : Nat), .ref x) :: lv.filter (fun q => !(q.1 == (i : Nat)) && !(q.1 + 1 == (i : Nat) && q.2.category == 2)) = lv') (k : GW K g (pc + 1) z lv' rest h) : GW K g pc z lv (.ref x :: rest) h := fun H locs ls hI hS hl => lv_astore_n hC.1 hC.2.1 hd rfl hl hn (m_flt1 (g_G g) (i : Nat) (.ref x) lv).symm (fun ls' hl' => k H locs ls' hI hS (he ▸ hl'))
theorem gw_iinc (hC : gC K g) (j : Nat) {i : Nat} {n : Int} {x : Int32} (v : Int32) (lv' : List (Nat × Value)) (hd : decode K.2.1 pc = .ok (.iinc i n, 3)) (hj : lv[j]? = some (i, .int x)) (hv : x + Int32.ofInt n = v) (hn : i < K.2.2.1) (he : (i, .int v) :: lv.filter (fun q => !(q.1 == i) && !(q.1 + 1 == i && q.2.category == 2)) = lv') (k : GW K g (pc + 3) z lv' rest h) : GW K g pc z lv rest h := fun H locs ls hI hS hl => lv_iinc hC.1 hC.2.1 hd hl (k := j) (x := x) (by simp [m_lv, hj, m_v]) hv hn (m_flt1 (g_G g) i (.int v) lv).symm (fun ls' hl' => k H locs ls' hI hS (he ▸ hl'))
theorem gw_lcmp (hC : gC K g) {x y : Int64} (hd : decode K.2.1 pc = .ok (.lcmp, 1)) (k : GW K g (pc + 1) z lv (.int (lg_cmp x y) :: rest) h) : GW K g pc z lv (.long y :: .long x :: rest) h := gw_lift (fun H locs cells slots ls hl kk => W.lcmp hC.1 hC.2.1 hd kk) k
theorem gw_getv (hC : gC K g) {a : Nat} {v : Value} {idx : Nat} (ci k : Nat) (hd : decode K.2.1 pc = .ok (.getfield idx, 3)) (hl : Cond.fieldLink K.1 idx (m_T ci k).1 (m_T ci k).2.1 (m_T ci k).2.2.1 ∈ m_tb) (hc : ci < 13) (hk : k < m_fn ci) (ho : m_O h a ci) (hv : m_f h ci a k = v) (kk : GW K g (pc + 3) z lv (v :: rest) h) : GW K g pc z lv (.ref a :: rest) h := by
  intro H locs ls hI hS hlv
  have hst : m_st (g_G g) (.ref a :: rest) = .ref ((g_G g).1 + a) :: m_st (g_G g) rest := by simp [m_st, m_v, m_ad_at (g_G g) ho.1 hI.2]
  rw [hst]
  refine va_get hC.1 hC.2.1 hC.2.2.2.2.1 (m_inB hc) hC.2.2.2.1 hC.2.2.2.2.2.1.1 hI.1 a (ci := ci) ((m_ws_at (g_G g) h ho.1).trans (by rw [m_E_o ho hc])) (m_cl hc) k hk (hC.2.2.2.2.1 _ hl) (fun x hx => hx) (v := m_v (g_G g) v) ?_ hd (kk H locs ls hI hS hlv)
  rw [List.getElem?_map, List.getElem?_range hk, ← hv]
  rfl
theorem gw_getr (hC : gC K g) {a b idx : Nat} (ci k : Nat) (hd : decode K.2.1 pc = .ok (.getfield idx, 3)) (hl : Cond.fieldLink K.1 idx (m_T ci k).1 (m_T ci k).2.1 (m_T ci k).2.2.1 ∈ m_tb) (hc : ci < 13) (hk : k < m_fn ci) (ht : m_tg (m_ty ci k) = 2) (ho : m_O h a ci) (hr : h.2.2.1 a k = some b) (kk : GW K g (pc + 3) z lv (.ref b :: rest) h) : GW K g pc z lv (.ref a :: rest) h := gw_getv hC ci k hd hl hc hk ho (by simp [m_f, ht, hr, m_rv]) kk
theorem gw_iaN (hC : gC K g) {a : Nat} {i : Int32} (j : Nat) {n : Nat} (hd : decode K.2.1 pc = .ok (.iaload, 1)) (ha : m_Ar h a 0 n) (hj : j < n) (hn : n < 2 ^ 31) (hi : i = nI j) (kk : GW K g (pc + 1) z lv (.int (h.1 a j) :: rest) h) : GW K g pc z lv (.int i :: .ref a :: rest) h := by
  subst hi
  intro H locs ls hI hS hlv
  rw [m_st2 (g_G g) ha.1 hI.2]
  exact va_iald hC.1 hC.2.1 hC.2.2.2.2.2.1.1 hI.1 a 0 ((m_ws_at (g_G g) h ha.1).trans (by rw [m_E_i ha (by decide) (by decide)])) rfl (vp_in_nI hj hn) hd (by rw [nI_clamp (by omega)]; exact kk H locs ls hI hS hlv)
theorem gw_laN (hC : gC K g) {a : Nat} {i : Int32} (j : Nat) {n : Nat} (hd : decode K.2.1 pc = .ok (.laload, 1)) (ha : m_Ar h a 1 n) (hj : j < n) (hn : n < 2 ^ 31) (hi : i = nI j) (kk : GW K g (pc + 1) z lv (.long (h.2.1 a j) :: rest) h) : GW K g pc z lv (.int i :: .ref a :: rest) h := by
  subst hi
  intro H locs ls hI hS hlv
  rw [m_st2 (g_G g) ha.1 hI.2]
  exact va_lald hC.1 hC.2.1 hC.2.2.2.2.2.1.1 hI.1 a 1 ((m_ws_at (g_G g) h ha.1).trans (by rw [m_E_l ha])) rfl (vp_in_nI hj hn) hd (by rw [nI_clamp (by omega)]; exact kk H locs ls hI hS hlv)
theorem gw_lsN (hC : gC K g) {a : Nat} {i : Int32} {x : Int64} (j : Nat) {n : Nat} (hd : decode K.2.1 pc = .ok (.lastore, 1)) (ha : m_Ar h a 1 n) (hj : j < n) (hn : n < 2 ^ 31) (hi : i = nI j) (kk : GW K g (pc + 1) z lv rest (m_sj h a j x)) : GW K g pc z lv (.long x :: .int i :: .ref a :: rest) h := by
  subst hi
  intro H locs ls hI hS hlv
  rw [m_st3 (g_G g) ha.1 hI.2]
  refine va_last hC.1 hC.2.1 hC.2.2.2.2.2.1.1 hI.1 (m_D (g_G g) h) hS a 1 ((m_ws_at (g_G g) h ha.1).trans (by rw [m_E_l ha])) rfl (vp_in_nI hj hn) hd (fun H1 locs1 hP1 _ hS1 => ?_)
  rw [nI_clamp (by omega)] at hP1
  have hset : (m_ws (g_G g) h).set a ((g_G g).1 + a, .inl ((g_G g).2.2.1 1, n, .inr (.inl (vp_updL (h.2.1 a) j x)))) = m_ws (g_G g) (m_sj h a j x) :=
    m_ws_set rfl (by rw [m_E_l (h := m_sj h a j x) (n := n) ha]; congr; funext k; simp [m_sj, vp_updL]) (fun k hk => m_E_congr rfl (by funext k'; simp [m_sj, hk]) rfl rfl)
  rw [hset] at hP1
  exact kk H1 locs1 ls ⟨hP1, hI.2⟩ hS1 hlv
end GWR
section GWC
variable {K : m_K} {g : g_C} {pc : Nat} {z : Nat × Nat} {lv : List (Nat × Value)} {rest : List Value} {h : m_H}
variable {y : MethodName} {cc : ByteArray} {nL : Nat} {ret : Option FieldType} {n ci d mc ms : Nat} {Q' : Option Value → m_H → Prop} {idx : Nat} {As : List Value} {b : Nat}
theorem gw_callV (hC : gC K g) (hM : MC y cc nL ret d 0 0 (.ref b :: As) h Q') (hy : m_YV y cc nL ret n ci) (hd : decode K.2.1 pc = .ok (.invokevirtual idx, 3)) (hl : Cond.methodLink K.1 idx y ∈ m_tb) (hb : m_O h b ci) (hroom : d + 1 ≤ (g_R g).frames ∧ 8 + (nL + 11) + 100 * d ≤ (g_R g).locals) (hnA : As.length = n) (hw : (rest.map fun v => v.category).sum ≤ 8) (hc : z.1 ≤ (g_R g).cells ∧ z.2 ≤ (g_R g).slots)
    (kk : ∀ (r : Option Value) (h' : m_H), Q' r h' → GW K g (pc + 3) z lv (r.toList ++ rest) h') : GW K g pc z lv (As.reverse ++ .ref b :: rest) h := by
  intro H locs ls hI hS hlv
  have hst : m_st (g_G g) (As.reverse ++ .ref b :: rest) = (As.map (m_v (g_G g))).reverse ++ .ref ((g_G g).1 + b) :: m_st (g_G g) rest := by simp [m_st, m_v, m_ad_at (g_G g) hb.1 hI.2]
  rw [hst]
  have hcw : (m_st (g_G g) rest).map (fun v => v.category) = rest.map (fun v => v.category) := by simp [m_st, Function.comp_def, m_cat]
  have hargs : (Value.ref ((g_G g).1 + b) :: As.map (m_v (g_G g))) = ((Value.ref b :: As).map (m_v (g_G g))) := by simp [m_v, m_ad_at (g_G g) hb.1 hI.2]
  refine m_after (z := z) (h := h) (Q' := Q') (mc := 0) (ms := 0) (va_runV (C := y.cls) (n := n) (As := As.map (m_v (g_G g))) (b := (g_G g).1 + b) (rest := m_st (g_G g) rest) ⟨hC.1, hC.2.1, hC.2.2.1, hC.2.2.2.1, hC.2.2.2.2.1⟩ (hM (g_l g) (g_G g))
      ⟨m_callB hy.1 hC.2.2.2.2.1 hl hroom, hC.2.2.2.2.1 _ hy.2.1, hC.2.2.2.2.1 _ hy.2.2.1⟩ ⟨m_blind (g_G g) _ h _, ?_, ?_⟩ rfl (by simp [hnA]) hlv.1 rfl ?_ hd hc) hS (fun r h' H1 locs1 hq hI1 hS1 hn1 => kk r h' hq H1 locs1 ls hI1 hS1 hlv)
  · rw [hy.2.2.2.1]
    exact va_recv hC.2.2.2.2.2.1.1 hI.1 (m_cl hy.2.2.2.2) (q0 := b) ((m_ws_at (g_G g) h hb.1).trans (by rw [m_E_o hb hy.2.2.2.2]))
  · rw [hargs]
    exact m_pre hC.2.2.2.2.2.1 hI hS (fun h0 => absurd h0 (Nat.lt_irrefl 0)) hC.2.2.2.2.2.2.2.2.2
  · exact lv_room (by rw [hcw]; exact hw)
/-- an answer that is an int -/
theorem gw_cVi {q : m_S} {X' : X_} {v : Int32} (hC : gC K g) (As : List Value) (hM : MC y cc nL ret d 0 0 (.ref b :: As) h (fun r0 h0 => r0 = rI v ∧ h0 = m_w q X')) (hy : m_YV y cc nL ret n ci) (hd : decode K.2.1 pc = .ok (.invokevirtual idx, 3)) (hl : Cond.methodLink K.1 idx y ∈ m_tb) (hb : m_O h b ci) (hroom : d + 1 ≤ (g_R g).frames ∧ 8 + (nL + 11) + 100 * d ≤ (g_R g).locals) (hnA : As.length = n) (hw : (rest.map fun v => v.category).sum ≤ 8) (hc : z.1 ≤ (g_R g).cells ∧ z.2 ≤ (g_R g).slots)
    {st : List Value} (hst : st = As.reverse ++ .ref b :: rest) (kk : GW K g (pc + 3) z lv (.int v :: rest) (m_w q X')) : GW K g pc z lv st h := by
  subst hst
  exact gw_callV hC hM hy hd hl hb hroom hnA hw hc (fun r h' hq => by obtain ⟨rfl, rfl⟩ := hq; exact kk)
theorem gw_new (hC : gC K g) {idx : Nat} (ci : Nat) (hd : decode K.2.1 pc = .ok (.new idx, 3)) (hl : Cond.classLink K.1 idx (m_nm ci) ∈ m_tb) (hin : Cond.instantiable (m_nm ci) (m_fn ci) ∈ m_tb) (hini : Cond.initialized (m_nm ci) ∈ m_tb) (hc : ci < 13) (hr : z.1 + 1 ≤ (g_R g).cells ∧ z.2 + m_fn ci ≤ (g_R g).slots) (hm : h.2.2.2.2 < 1000000) (hz : (g_s g).heap.size = (g_G g).1) (hn : h.2.2.2.2 = z.1)
    (kk : GW K g (pc + 3) (z.1 + 1, z.2 + m_fn ci) lv (.ref h.2.2.2.2 :: rest) (m_nw h ci 0)) : GW K g pc z lv rest h := by
  intro H locs ls hI hS hlv
  have hO : m_O (m_nw h ci 0) h.2.2.2.2 ci := ⟨Nat.lt_succ_self _, by simp [m_nw]⟩
  have hE := m_E_o (G := g_G g) hO hc
  refine va_new (ci := ci) (fs := (List.range (m_fn ci)).map (fun k => m_v (g_G g) (m_f (m_nw h ci 0) ci h.2.2.2.2 k))) hC.1 hC.2.1 hC.2.2.2.2.1 (m_inB hc) (m_ty ci) (m_tyok hc) hC.2.2.2.1 (hC.2.2.2.2.1 _ hl) (hC.2.2.2.2.1 _ hin) (hC.2.2.2.2.1 _ hini) hC.2.2.2.2.2.1.1 hI.1 (m_D (g_G g) h) hS (fun q hq => Nat.le_trans hC.2.2.2.2.2.2.2.2.2 hq) (m_cl hc) ?_ hr.1 hr.2 hd (fun q H1 hP1 hD1 hS1 => ?_)
  · intro j hj
    rw [m_def ci hc j hj]
    simp only [vp_V, List.getD_eq_getElem?_getD, List.getElem?_map, List.getElem?_range hj, Option.map_some, Option.getD_some, m_nw_f]
    split
    · rfl
    · split <;> rfl
  · refine m_newq (n0 := 0) hP1 hD1 hz (by rw [hn]; exact (Nat.zero_add _).symm) (fun hq => ?_)
    subst hq
    rw [m_nw_ws (G := g_G g) (h := h) (t := ci) (len := 0) hE] at hP1
    have hst : m_st (g_G g) (.ref h.2.2.2.2 :: rest) = .ref ((g_G g).1 + h.2.2.2.2) :: m_st (g_G g) rest := by simp [m_st, m_v, m_ad, hm]
    have := kk H1 locs ls ⟨hP1, Nat.succ_le_of_lt hm⟩ hS1 hlv
    rw [hst] at this
    exact this
theorem gw_newl (hC : gC K g) {k : Int32} {N : Nat} (hN : k.toNatClampNeg = N) (hd : decode K.2.1 pc = .ok (.newarray .long, 2)) (h0 : ¬ k < 0) (hb : N * componentBytes (newarray.typeOf .long) ≤ 536870912) (hr : z.1 + 1 ≤ (g_R g).cells ∧ z.2 + N ≤ (g_R g).slots) (hm : h.2.2.2.2 < 1000000) (hz : (g_s g).heap.size = (g_G g).1) (hn : h.2.2.2.2 = z.1)
    (kk : GW K g (pc + 2) (z.1 + 1, z.2 + N) lv (.ref h.2.2.2.2 :: rest) (m_nw h (100 + 1) N)) : GW K g pc z lv (.int k :: rest) h := by
  intro H locs ls hI hS hlv
  have hA : m_Ar (m_nw h (100 + 1) N) h.2.2.2.2 1 N := ⟨Nat.lt_succ_self _, by simp [m_nw]⟩
  have hst : m_st (g_G g) (.ref h.2.2.2.2 :: rest) = .ref ((g_G g).1 + h.2.2.2.2) :: m_st (g_G g) rest := by simp [m_st, m_v, m_ad, hm]
  have hE := m_E_l (G := g_G g) hA
  have hz0 : (m_nw h (100 + 1) N).2.1 h.2.2.2.2 = fun _ => 0 := by funext k; simp [m_nw]
  rw [hz0] at hE
  refine va_newa (atype := .long) hC.1 hC.2.1 (hC.2.2.2.2.1 _ al_long) rfl hC.2.2.2.2.2.1.1 hI.1 (m_D (g_G g) h) hS (fun q hq => Nat.le_trans hC.2.2.2.2.2.2.2.2.2 hq) (a0 := (N, .inr (.inl (fun _ => 0)))) (fun cA => rfl) h0 hN hb hr.1 hr.2 hd (fun q cA H1 hK1 hP1 hD1 hS1 => ?_)
  refine m_newq (n0 := 0) hP1 hD1 hz (by rw [hn]; exact (Nat.zero_add _).symm) (fun hq => ?_)
  have hcA := m_cA hK1 (t := 1) rfl
  subst hq; subst hcA
  rw [m_nw_ws (G := g_G g) (h := h) (t := 100 + 1) (len := N) hE] at hP1
  have := kk H1 locs ls ⟨hP1, Nat.succ_le_of_lt hm⟩ hS1 hlv
  rw [hst] at this
  exact this
theorem gw_callI (hC : gC K g) (hM : MC y cc nL none d mc ms (.ref b :: As) h Q') (hy : m_Y y cc nL none n ∧ y.name = "<init>" ∧ Cond.instanceMethod y ∈ m_tb) (hd : decode K.2.1 pc = .ok (.invokespecial idx, 3)) (hl : Cond.methodLink K.1 idx y ∈ m_tb) (hb : b < h.2.2.2.2) (hroom : d + 1 ≤ (g_R g).frames ∧ 8 + (nL + 11) + 100 * d ≤ (g_R g).locals) (hnA : As.length = n) (hw : (rest.map fun v => v.category).sum ≤ 8) (hc : z.1 + mc ≤ (g_R g).cells ∧ z.2 + ms ≤ (g_R g).slots) (hz : (g_s g).heap.size = (g_G g).1) (hn : h.2.2.2.2 = z.1)
    {st : List Value} (hst1 : st = As.reverse ++ .ref b :: rest) (kk : ∀ (r : Option Value) (h' : m_H), Q' r h' → GW K g (pc + 3) (z.1 + mc, z.2 + ms) lv (r.toList ++ rest) h') : GW K g pc z lv st h := by
  subst hst1
  intro H locs ls hI hS hlv
  refine m_sz (mk := 1) (n0 := 0) hI hS (fun _ => hz) (by rw [hn]; exact (Nat.zero_add _).symm) (fun hsz => ?_)
  have hst : m_st (g_G g) (As.reverse ++ .ref b :: rest) = (As.map (m_v (g_G g))).reverse ++ .ref ((g_G g).1 + b) :: m_st (g_G g) rest := by simp [m_st, m_v, m_ad_at (g_G g) hb hI.2]
  rw [hst]
  have hcw : (m_st (g_G g) rest).map (fun v => v.category) = rest.map (fun v => v.category) := by simp [m_st, Function.comp_def, m_cat]
  have hargs : (Value.ref ((g_G g).1 + b) :: As.map (m_v (g_G g))) = ((Value.ref b :: As).map (m_v (g_G g))) := by simp [m_v, m_ad_at (g_G g) hb hI.2]
  have hpre : PreS (g_s g) H (m_Pc (g_G g) (.ref b :: As) h mc) (Value.ref ((g_G g).1 + b) :: As.map (m_v (g_G g))) := ⟨m_blind (g_G g) _ h _, by rw [hargs]; exact m_pre hC.2.2.2.2.2.1 hI hS (fun _ => hsz Nat.one_pos) hC.2.2.2.2.2.2.2.2.2⟩
  exact m_after (z := z) (h := h) (Q' := Q') (mc := mc) (ms := ms) (va_runI (n := n) (As := As.map (m_v (g_G g))) (b := (g_G g).1 + b) (rest := m_st (g_G g) rest) ⟨hC.1, hC.2.1, hC.2.2.1, hC.2.2.2.1, hC.2.2.2.2.1⟩ (hM (g_l g) (g_G g))
      ⟨m_callB hy.1 hC.2.2.2.2.1 hl hroom, hy.2.1, hC.2.2.2.2.1 _ hy.2.2⟩ hpre rfl (by simp [hnA]) hlv.1 rfl (lv_room (by rw [hcw]; exact hw)) hd hc) hS (fun r h' H1 locs1 hq hI1 hS1 hn1 => kk r h' hq H1 locs1 ls hI1 hS1 hlv)
/-- the law's own script: its length, its ints -/
theorem gw_slen (hC : gC K g) {i L : Nat} {xs : Nat → Int32} (hi : 1000000 ≤ i) (hX : va_X ((g_G g).2.2.2 i) L xs (g_s g) (g_s g).heap) (hbl : (g_G g).2.2.2 i < (g_s g).heap.size) (hbA : (g_G g).2.2.2 i < (g_G g).1) (hd : decode K.2.1 pc = .ok (.arraylength, 1)) (kk : GW K g (pc + 1) z lv (.int (nI L) :: rest) h) : GW K g pc z lv (.ref i :: rest) h := by
  intro H locs ls hI hS hlv
  have hst : m_st (g_G g) (.ref i :: rest) = .ref ((g_G g).2.2.2 i) :: m_st (g_G g) rest := by simp [m_st, m_v, m_ad, Nat.not_lt.mpr hi]
  rw [hst]
  exact va_slen hC.1 hC.2.1 hX hbl (Nat.not_le.mpr hbA) hS hd (kk H locs ls hI hS hlv)
theorem gw_sld (hC : gC K g) {i L : Nat} {xs : Nat → Int32} {k : Int32} (j : Nat) (hi : 1000000 ≤ i) (hX : va_X ((g_G g).2.2.2 i) L xs (g_s g) (g_s g).heap) (hbl : (g_G g).2.2.2 i < (g_s g).heap.size) (hbA : (g_G g).2.2.2 i < (g_G g).1) (hj : j < L) (hL : L < 2 ^ 31) (hk : k = nI j) (hd : decode K.2.1 pc = .ok (.iaload, 1)) (kk : GW K g (pc + 1) z lv (.int (xs j) :: rest) h) : GW K g pc z lv (.int k :: .ref i :: rest) h := by
  subst hk
  intro H locs ls hI hS hlv
  have hst : m_st (g_G g) (.int (nI j) :: .ref i :: rest) = .int (nI j) :: .ref ((g_G g).2.2.2 i) :: m_st (g_G g) rest := by simp [m_st, m_v, m_ad, Nat.not_lt.mpr hi]
  rw [hst]
  refine va_sld hC.1 hC.2.1 hX hbl (Nat.not_le.mpr hbA) hS (vp_in_nI hj hL) hd ?_
  rw [nI_clamp (by omega)]
  exact kk H locs ls hI hS hlv
end GWC
