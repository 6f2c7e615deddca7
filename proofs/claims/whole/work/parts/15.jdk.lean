section LW
variable {K : m_K} {pc : Nat} {z : Nat × Nat} {lv : List (Nat × Value)} {rest : List Value} {h : m_H} {Q : Option Value → m_H → Prop}
theorem mw_ldc_w {ix : Nat} {v : Int32} (hd : decode K.2.1 pc = .ok (.ldc_w ix, 3)) (hw : Cond.constant K.1 ix v ∈ m_tb) (k : MW K (pc + 3) z lv (.int v :: rest) h Q) : MW K pc z lv (rest) h Q := mw_lift (fun p l e R s m args below meth c G H locs cells slots Z ls hC hl kk => lv_ldcw hC.1 hC.2.1 hC.2.2.2.1 (hC.2.2.2.2.1 _ hw) hd kk) k
theorem mw_mmin {idx : Nat} {x y : Int32} (hd : decode K.2.1 pc = .ok (.invokestatic idx, 3)) (hl : Cond.methodLink K.1 idx yJ9_min_7cf53 ∈ m_tb) (hdep : 1 ≤ K.2.2.2.2.2.1) (hw : (rest.map fun v => v.category).sum ≤ 8) (hc : z.1 ≤ K.2.2.2.2.2.2.1 ∧ z.2 ≤ K.2.2.2.2.2.2.2) (k : MW K (pc + 3) z lv (.int (if y < x then y else x) :: rest) h Q) : MW K pc z lv (.int y :: .int x :: rest) h Q := by
  intro p l e s m args below meth c G H locs ls n0 hC hI hS hlv hz hn
  have hcw : (m_st G rest).map (fun v => v.category) = rest.map (fun v => v.category) := by simp [m_st, Function.comp_def, m_cat]
  exact va_mmin hC.1 hC.2.1 (hC.2.2.1.trans hlv.1.symm) hC.2.2.2.1 (hC.2.2.2.2.1 _ hl) (hC.2.2.2.2.1 _ mY_J9_min_7cf53.2) (hC.2.2.2.2.1 _ mY_J9_min_7cf53.1.2.1) (hC.2.2.2.2.1 _ mY_J9_min_7cf53.1.1) hdep (by have hcw' := congrArg List.sum hcw; simp only [m_st] at hcw'; simp only [m_R]; omega) hc.1 hc.2 hd (k p l e s m args below meth c G H locs ls n0 hC hI hS hlv hz hn)
theorem mw_mmax {idx : Nat} {x y : Int32} (hd : decode K.2.1 pc = .ok (.invokestatic idx, 3)) (hl : Cond.methodLink K.1 idx yJ9_max_7cf53 ∈ m_tb) (hdep : 1 ≤ K.2.2.2.2.2.1) (hw : (rest.map fun v => v.category).sum ≤ 8) (hc : z.1 ≤ K.2.2.2.2.2.2.1 ∧ z.2 ≤ K.2.2.2.2.2.2.2) (k : MW K (pc + 3) z lv (.int (if x < y then y else x) :: rest) h Q) : MW K pc z lv (.int y :: .int x :: rest) h Q := by
  intro p l e s m args below meth c G H locs ls n0 hC hI hS hlv hz hn
  have hcw : (m_st G rest).map (fun v => v.category) = rest.map (fun v => v.category) := by simp [m_st, Function.comp_def, m_cat]
  exact va_mmax hC.1 hC.2.1 (hC.2.2.1.trans hlv.1.symm) hC.2.2.2.1 (hC.2.2.2.2.1 _ hl) (hC.2.2.2.2.1 _ mY_J9_max_7cf53.2) (hC.2.2.2.2.1 _ mY_J9_max_7cf53.1.2.1) (hC.2.2.2.2.1 _ mY_J9_max_7cf53.1.1) hdep (by have hcw' := congrArg List.sum hcw; simp only [m_st] at hcw'; simp only [m_R]; omega) hc.1 hc.2 hd (k p l e s m args below meth c G H locs ls n0 hC hI hS hlv hz hn)
end LW
/-- a logical shift to the right -/
def us (x y : Int32) : Int32 := (x.toUInt32 >>> (y.toUInt32 &&& Int32.toUInt32 31)).toInt32
def bcA (x : Int32) : Int32 := x - (us x 1 &&& 1431655765)
def bcB (x : Int32) : Int32 := (x &&& 858993459) + (us x 2 &&& 858993459)
def bcC (x : Int32) : Int32 := (x + us x 4) &&& 252645135
def bcD (x : Int32) : Int32 := x + us x 8
def bcE (x : Int32) : Int32 := x + us x 16
/-- Integer.bitCount -/
def bc (x : Int32) : Int32 := bcE (bcD (bcC (bcB (bcA x)))) &&& 63
def u1 (V : m_V) (j : Nat) (f : Nat → Int32) : m_V := fun j' => if j' = j then f else V j'
def u1l (V : m_L) (j : Nat) (f : Nat → Int64) : m_L := fun j' => if j' = j then f else V j'
theorem bk_ci {h : m_H} {b n j : Nat} {V : m_V} {L : m_L} {f : Nat → Int32} (hj : j < n) : m_ci (m_bk h b n V L) (b + j) f = m_bk h b n (u1 V j f) L := by
  refine Prod.ext (funext fun a => funext fun k' => ?_) rfl
  simp only [m_ci, m_bk, u1]
  by_cases c : b ≤ a ∧ a < b + n
  · by_cases e : a = b + j
    · subst e
      simp [c]
    · have : ¬ (a - b = j) := by omega
      simp [c, e, this]
  · have : ¬ a = b + j := by omega
    simp [c, this]
theorem bk_cl {h : m_H} {b n j : Nat} {V : m_V} {L : m_L} {f : Nat → Int64} (hj : j < n) : m_cl' (m_bk h b n V L) (b + j) f = m_bk h b n V (u1l L j f) := by
  refine Prod.ext rfl (Prod.ext (funext fun a => funext fun k' => ?_) rfl)
  simp only [m_cl', m_bk, u1l]
  by_cases c : b ≤ a ∧ a < b + n
  · by_cases e : a = b + j
    · subst e
      simp [c]
    · have : ¬ (a - b = j) := by omega
      simp [c, e, this]
  · have : ¬ a = b + j := by omega
    simp [c, this]
def cpy (n : Nat) (f g : Nat → Int32) : Nat → Int32 := fun k => if k < n then f k else g k
def cpyl (n : Nat) (f g : Nat → Int64) : Nat → Int64 := fun k => if k < n then f k else g k
theorem va_cpy0 {α : Type} {f g : Nat → α} {n : Nat} : va_cpy f g 0 0 n = fun k => if k < n then f k else g k := by
  funext k
  by_cases c : k < n
  · rw [pk_cpy_in (by omega) (by omega)]; simp [c]
  · rw [pk_cpy_out (by omega)]; simp [c]
theorem m_ci_self {h : m_H} {a : Nat} : m_ci h a (h.1 a) = h := by
  refine Prod.ext (funext fun b => ?_) rfl
  simp only [m_ci]
  split
  · rename_i e; rw [e]
  · rfl
theorem m_ci_si {h : m_H} {a i : Nat} {f : Nat → Int32} {v : Int32} : m_si (m_ci h a f) a i v = m_ci h a (fun k => if k = i then v else f k) := by
  refine Prod.ext (funext fun b => funext fun k => ?_) rfl
  simp only [m_ci, m_si]
  by_cases e : b = a <;> simp [e]
set_option maxRecDepth 100000 in
set_option maxHeartbeats 4000000 in
theorem c_J6_bitCount_0f7a4 (d : Nat) (h : m_H) (x : Int32) : MC yJ6_bitCount_0f7a4 cJ6_bitCount_0f7a4 1 (some .int) (d + 1) 0 0 [.int x] h (m_r (.int (bc x)) h) := by
  refine mc_of (by decide +kernel) (Nat.le_of_ble_eq_true rfl) ?_
  show MW (yJ6_bitCount_0f7a4.cls, cJ6_bitCount_0f7a4, 1, (some .int), yJ6_bitCount_0f7a4.name, d + 1, 0, 0) 0 (0, 0) [(0, .int x)] [] h _
  refine mw_iload_n 0 dJ6_bitCount_0f7a4_0 rfl ?_
  refine mw_iload_n 0 dJ6_bitCount_0f7a4_1 rfl ?_
  refine mw_iconst (v := 1) dJ6_bitCount_0f7a4_2 rfl ?_
  refine mw_iushr dJ6_bitCount_0f7a4_3 ?_
  refine mw_ldc_w dJ6_bitCount_0f7a4_4 cl_J6_265 ?_
  refine mw_iand dJ6_bitCount_0f7a4_7 ?_
  refine mw_isub dJ6_bitCount_0f7a4_8 ?_
  refine mw_top (x' := (bcA x)) rfl ?_
  refine mw_istore_n [(0, .int (bcA x))] dJ6_bitCount_0f7a4_9 (Nat.le_of_ble_eq_true rfl) rfl ?_
  refine mw_iload_n 0 dJ6_bitCount_0f7a4_10 rfl ?_
  refine mw_ldc_w dJ6_bitCount_0f7a4_11 cl_J6_266 ?_
  refine mw_iand dJ6_bitCount_0f7a4_14 ?_
  refine mw_iload_n 0 dJ6_bitCount_0f7a4_15 rfl ?_
  refine mw_iconst (v := 2) dJ6_bitCount_0f7a4_16 rfl ?_
  refine mw_iushr dJ6_bitCount_0f7a4_17 ?_
  refine mw_ldc_w dJ6_bitCount_0f7a4_18 cl_J6_266 ?_
  refine mw_iand dJ6_bitCount_0f7a4_21 ?_
  refine mw_iadd dJ6_bitCount_0f7a4_22 ?_
  refine mw_top (x' := (bcB (bcA x))) rfl ?_
  refine mw_istore_n [(0, .int (bcB (bcA x)))] dJ6_bitCount_0f7a4_23 (Nat.le_of_ble_eq_true rfl) rfl ?_
  refine mw_iload_n 0 dJ6_bitCount_0f7a4_24 rfl ?_
  refine mw_iload_n 0 dJ6_bitCount_0f7a4_25 rfl ?_
  refine mw_iconst (v := 4) dJ6_bitCount_0f7a4_26 rfl ?_
  refine mw_iushr dJ6_bitCount_0f7a4_27 ?_
  refine mw_iadd dJ6_bitCount_0f7a4_28 ?_
  refine mw_ldc_w dJ6_bitCount_0f7a4_29 cl_J6_267 ?_
  refine mw_iand dJ6_bitCount_0f7a4_32 ?_
  refine mw_top (x' := (bcC (bcB (bcA x)))) rfl ?_
  refine mw_istore_n [(0, .int (bcC (bcB (bcA x))))] dJ6_bitCount_0f7a4_33 (Nat.le_of_ble_eq_true rfl) rfl ?_
  refine mw_iload_n 0 dJ6_bitCount_0f7a4_34 rfl ?_
  refine mw_iload_n 0 dJ6_bitCount_0f7a4_35 rfl ?_
  refine mw_bipush (v := 8) dJ6_bitCount_0f7a4_36 (by decide) ?_
  refine mw_iushr dJ6_bitCount_0f7a4_38 ?_
  refine mw_iadd dJ6_bitCount_0f7a4_39 ?_
  refine mw_top (x' := (bcD (bcC (bcB (bcA x))))) rfl ?_
  refine mw_istore_n [(0, .int (bcD (bcC (bcB (bcA x)))))] dJ6_bitCount_0f7a4_40 (Nat.le_of_ble_eq_true rfl) rfl ?_
  refine mw_iload_n 0 dJ6_bitCount_0f7a4_41 rfl ?_
  refine mw_iload_n 0 dJ6_bitCount_0f7a4_42 rfl ?_
  refine mw_bipush (v := 16) dJ6_bitCount_0f7a4_43 (by decide) ?_
  refine mw_iushr dJ6_bitCount_0f7a4_45 ?_
  refine mw_iadd dJ6_bitCount_0f7a4_46 ?_
  refine mw_top (x' := (bcE (bcD (bcC (bcB (bcA x)))))) rfl ?_
  refine mw_istore_n [(0, .int (bcE (bcD (bcC (bcB (bcA x))))))] dJ6_bitCount_0f7a4_47 (Nat.le_of_ble_eq_true rfl) rfl ?_
  refine mw_iload_n 0 dJ6_bitCount_0f7a4_48 rfl ?_
  refine mw_bipush (v := 63) dJ6_bitCount_0f7a4_49 (by decide) ?_
  refine mw_iand dJ6_bitCount_0f7a4_51 ?_
  refine mw_ireturn dJ6_bitCount_0f7a4_52 rfl rfl ⟨rfl, rfl⟩ ?_
  exact ⟨rfl, rfl⟩
set_option maxRecDepth 100000 in
set_option maxHeartbeats 4000000 in
theorem c_J7_fill_53178 (d : Nat) (h : m_H) (a n : Nat) (v : Int32) (ha : m_Ar h a 0 n) (hn : n < 2 ^ 31) : MC yJ7_fill_53178 cJ7_fill_53178 4 none (d + 1) 0 0 [.ref a, .int v] h (m_rn (m_ci h a (fun k => if k < n then v else h.1 a k))) := by
  refine mc_of (by decide +kernel) (Nat.le_of_ble_eq_true rfl) ?_
  show MW (yJ7_fill_53178.cls, cJ7_fill_53178, 4, none, yJ7_fill_53178.name, d + 1, 0, 0) 0 (0, 0) [(0, .ref a), (1, .int v)] [] h _
  refine mw_iconst (v := 0) dJ7_fill_53178_0 rfl ?_
  refine mw_istore_n [(2, .int 0), (0, .ref a), (1, .int v)] dJ7_fill_53178_1 (Nat.le_of_ble_eq_true rfl) rfl ?_
  refine mw_aload_n 1 dJ7_fill_53178_2 rfl ?_
  refine mw_alen (t := 0) (by decide) dJ7_fill_53178_3 ha ?_
  refine mw_istore_n [(3, .int (nI n)), (2, .int 0), (0, .ref a), (1, .int v)] dJ7_fill_53178_4 (Nat.le_of_ble_eq_true rfl) rfl ?_
  have L5 : ∀ (m5 : Nat) (i : Nat) (g : m_H), (i ≤ n) → (g = m_ci h a (fun k => if k < i then v else h.1 a k)) → n - i < m5 → MW (yJ7_fill_53178.cls, cJ7_fill_53178, 4, none, yJ7_fill_53178.name, d + 1, 0, 0) 5 (0, 0) [(2, .int (nI i)), (3, .int (nI n)), (0, .ref a), (1, .int v)] [] g (m_rn (m_ci h a (fun k => if k < n then v else h.1 a k))) := by
    intro m5
    induction m5 with
    | zero => intro i g _ _ hm5; exact absurd hm5 (Nat.not_lt_zero _)
    | succ m5 ih5 =>
      intro i g hi hg hm5
      refine mw_iload_n 0 dJ7_fill_53178_5 rfl ?_
      refine mw_iload_n 1 dJ7_fill_53178_6 rfl ?_
      refine mw_icmp_ge (tgt := 20) dJ7_fill_53178_7 (by decide) (fun c => ?_) (fun c => ?_)
      · have c := (nI_leI (by omega) (by omega)).mp c
        refine mw_return dJ7_fill_53178_20 rfl ⟨rfl, rfl⟩ ?_
        exact ⟨rfl, by rw [hg, show i = n by omega]⟩
      · have c := mt (nI_leI (by omega) (by omega)).mpr c
        refine mw_aload_n 2 dJ7_fill_53178_10 rfl ?_
        refine mw_iload_n 0 dJ7_fill_53178_11 rfl ?_
        refine mw_iload_n 3 dJ7_fill_53178_12 rfl ?_
        refine mw_isN i dJ7_fill_53178_13 (by rw [hg]; exact ha) (by omega) (by omega) rfl ?_
        refine mw_iinc 0 (nI (i + 1)) [(2, .int (nI (i + 1))), (3, .int (nI n)), (0, .ref a), (1, .int v)] dJ7_fill_53178_14 rfl (nI_1 _) (Nat.le_of_ble_eq_true rfl) rfl ?_
        refine mw_goto (tgt := 5) dJ7_fill_53178_17 (by decide) ?_
        refine ih5 _ _ ?_ ?_ ?_
        · first | omega | rfl | assumption | (simp_all [bo]; done)
        · first | omega | (rw [hg, m_ci_si]; congr 1; funext k; by_cases e : k = i <;> simp [e] <;> split <;> (try split) <;> (first | rfl | omega))
        · omega
  refine mw_sub [1, 0, 2, 3] rfl ?_
  refine L5 _ 0 h ?_ ?_ (Nat.lt_succ_self _)
  · first | omega | rfl | assumption | (simp_all [bo]; done)
  · (simp only [Nat.not_lt_zero, if_false]; exact m_ci_self.symm)
set_option maxRecDepth 100000 in
set_option maxHeartbeats 4000000 in
theorem c_X11_copyRow (d : Nat) (h : m_H) (a b n : Nat) (ha : m_Ar h a 0 n) (hb : m_Ar h b 0 n) (hn : n < 2 ^ 31) : MC yX11_copyRow cX11_copyRow 2 none (d + 1) 0 0 [.ref a, .ref b] h (m_rn (m_ci h b (cpy n (h.1 a) (h.1 b)))) := by
  refine mc_of (by decide +kernel) (Nat.le_of_ble_eq_true rfl) ?_
  show MW (yX11_copyRow.cls, cX11_copyRow, 2, none, yX11_copyRow.name, d + 1, 0, 0) 0 (0, 0) [(0, .ref a), (1, .ref b)] [] h _
  refine mw_aload_n 0 dX11_copyRow_0 rfl ?_
  refine mw_iconst (v := 0) dX11_copyRow_1 rfl ?_
  refine mw_aload_n 1 dX11_copyRow_2 rfl ?_
  refine mw_iconst (v := 0) dX11_copyRow_3 rfl ?_
  refine mw_aload_n 0 dX11_copyRow_4 rfl ?_
  refine mw_alen (t := 0) (by decide) dX11_copyRow_5 ha ?_
  refine mw_aload_n 1 dX11_copyRow_6 rfl ?_
  refine mw_alen (t := 0) (by decide) dX11_copyRow_7 hb ?_
  refine mw_mmin dX11_copyRow_8 ml_X11_387 (by show 1 ≤ d + _; omega) (Nat.le_of_ble_eq_true rfl) ⟨Nat.le_refl _, Nat.le_refl _⟩ ?_
  refine mw_top (x' := (nI n)) (by simp) ?_
  refine mw_copyi dX11_copyRow_11 ml_X11_392 nl_acopy sl_acopy in_System ha hb (by decide) (by decide) (nI_pos (by omega)) (by rw [nI_clamp (by omega)]; simp) (by rw [nI_clamp (by omega)]; simp) (by show 1 ≤ d + 1; omega) (Nat.le_of_ble_eq_true rfl) ?_
  refine mw_return dX11_copyRow_14 rfl ⟨rfl, rfl⟩ ?_
  refine ⟨rfl, ?_⟩; rw [nI_clamp (by omega), show (0 : Int32).toNatClampNeg = 0 from rfl, va_cpy0]; rfl
