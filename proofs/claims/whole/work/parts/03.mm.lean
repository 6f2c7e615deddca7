/-! a world of numbers: what the claim's own objects hold, as functions of place and index; the judgement MW (the machine at a place of a method, seen so) and the contract MC -/
/-- ints, longs, references by (cell, place); kind of a cell: below 100 the number of its sort in vwCl, from 100 on an array's sort, and its length; how many cells -/
abbrev m_H : Type := (Nat → Nat → Int32) × (Nat → Nat → Int64) × (Nat → Nat → Option Nat) × (Nat → Nat × Nat) × Nat
/-- where the world begins, the sorts' numbers and slots, the arrays' sorts, where Strings lie -/
abbrev m_G : Type := Nat × va_G × (Nat → ClassId) × (Nat → Nat)
def m_ad (G : m_G) (i : Nat) : Nat := if i < 1000000 then G.1 + i else G.2.2.2 i
def m_v (G : m_G) : Value → Value
  | .ref i => .ref (m_ad G i)
  | v => v
def m_st (G : m_G) (st : List Value) : List Value := st.map (m_v G)
def m_lv (G : m_G) (lv : List (Nat × Value)) : List (Nat × Value) := lv.map (fun q => (q.1, m_v G q.2))
def m_rv : Option Nat → Value
  | some i => .ref i
  | none => .null
def m_ty (ci : Nat) : Nat → FieldType := match ci with
  | 0 => tyX0
  | 1 => tyX1
  | 2 => tyX2
  | 3 => tyX3
  | 4 => tyX4
  | 5 => tyX5
  | 6 => tyX6
  | 7 => tyX7
  | 8 => tyX8
  | 9 => tyX9
  | 10 => tyX10
  | 11 => tyX11
  | _ => tyX12
def m_tg (ty : FieldType) : Nat := match ty with
  | .long => 1
  | .object _ => 2
  | .array _ => 2
  | _ => 0
def m_f (h : m_H) (ci a k : Nat) : Value := match m_tg (m_ty ci k) with
  | 0 => .int (h.1 a k)
  | 1 => .long (h.2.1 a k)
  | _ => m_rv (h.2.2.1 a k)
abbrev vwCl : List vw_C := [(RX0, TX0, 9), (RX1, TX1, 6), (RX2, TX2, 3), (RX3, TX3, 2), (RX4, TX4, 4), (RX5, TX5, 20), (RX6, TX6, 3), (RX7, TX7, 7), (RX8, TX8, 14), (RX9, TX9, 2), (RX10, TX10, 12), (RX11, TX11, 15), (RX12, TX12, 51)]
def m_T (ci : Nat) : u_T := match ci with
  | 0 => TX0
  | 1 => TX1
  | 2 => TX2
  | 3 => TX3
  | 4 => TX4
  | 5 => TX5
  | 6 => TX6
  | 7 => TX7
  | 8 => TX8
  | 9 => TX9
  | 10 => TX10
  | 11 => TX11
  | _ => TX12
def m_nm (ci : Nat) : String := match ci with
  | 0 => RX0
  | 1 => RX1
  | 2 => RX2
  | 3 => RX3
  | 4 => RX4
  | 5 => RX5
  | 6 => RX6
  | 7 => RX7
  | 8 => RX8
  | 9 => RX9
  | 10 => RX10
  | 11 => RX11
  | _ => RX12
def m_fn (ci : Nat) : Nat := match ci with
  | 0 => 9
  | 1 => 6
  | 2 => 3
  | 3 => 2
  | 4 => 4
  | 5 => 20
  | 6 => 3
  | 7 => 7
  | 8 => 14
  | 9 => 2
  | 10 => 12
  | 11 => 15
  | _ => 51
theorem m_cl {ci : Nat} (h : ci < 13) : vwCl[ci]? = some (m_nm ci, m_T ci, m_fn ci) := by
  match ci, h with
  | 0, _ => rfl
  | 1, _ => rfl
  | 2, _ => rfl
  | 3, _ => rfl
  | 4, _ => rfl
  | 5, _ => rfl
  | 6, _ => rfl
  | 7, _ => rfl
  | 8, _ => rfl
  | 9, _ => rfl
  | 10, _ => rfl
  | 11, _ => rfl
  | 12, _ => rfl
theorem m_tyok {ci : Nat} (h : ci < 13) : ∀ k, k < m_fn ci → parseFieldDescriptor (m_T ci k).2.2.1 = some (m_ty ci k) := by
  match ci, h with
  | 0, _ => exact tyX0_ok
  | 1, _ => exact tyX1_ok
  | 2, _ => exact tyX2_ok
  | 3, _ => exact tyX3_ok
  | 4, _ => exact tyX4_ok
  | 5, _ => exact tyX5_ok
  | 6, _ => exact tyX6_ok
  | 7, _ => exact tyX7_ok
  | 8, _ => exact tyX8_ok
  | 9, _ => exact tyX9_ok
  | 10, _ => exact tyX10_ok
  | 11, _ => exact tyX11_ok
  | 12, _ => exact tyX12_ok
theorem m_nmok {ci : Nat} (h : ci < 13) : ∀ a, a < m_fn ci → ∀ b, b < m_fn ci → a ≠ b → (m_T ci a).2.1 ≠ (m_T ci b).2.1 := by
  match ci, h with
  | 0, _ => exact nmX0
  | 1, _ => exact nmX1
  | 2, _ => exact nmX2
  | 3, _ => exact nmX3
  | 4, _ => exact nmX4
  | 5, _ => exact nmX5
  | 6, _ => exact nmX6
  | 7, _ => exact nmX7
  | 8, _ => exact nmX8
  | 9, _ => exact nmX9
  | 10, _ => exact nmX10
  | 11, _ => exact nmX11
  | 12, _ => exact nmX12
set_option maxRecDepth 100000 in
set_option maxHeartbeats 4000000 in
theorem m_inT {ci : Nat} (h : ci < 13) : ∀ w ∈ u_ws (m_nm ci) (m_T ci) (m_fn ci), w ∈ lw_tbl := by
  match ci, h with
  | 0, _ => exact (by decide +kernel : ∀ w ∈ u_ws RX0 TX0 9, w ∈ lw_tbl)
  | 1, _ => exact (by decide +kernel : ∀ w ∈ u_ws RX1 TX1 6, w ∈ lw_tbl)
  | 2, _ => exact (by decide +kernel : ∀ w ∈ u_ws RX2 TX2 3, w ∈ lw_tbl)
  | 3, _ => exact (by decide +kernel : ∀ w ∈ u_ws RX3 TX3 2, w ∈ lw_tbl)
  | 4, _ => exact (by decide +kernel : ∀ w ∈ u_ws RX4 TX4 4, w ∈ lw_tbl)
  | 5, _ => exact (by decide +kernel : ∀ w ∈ u_ws RX5 TX5 20, w ∈ lw_tbl)
  | 6, _ => exact (by decide +kernel : ∀ w ∈ u_ws RX6 TX6 3, w ∈ lw_tbl)
  | 7, _ => exact (by decide +kernel : ∀ w ∈ u_ws RX7 TX7 7, w ∈ lw_tbl)
  | 8, _ => exact (by decide +kernel : ∀ w ∈ u_ws RX8 TX8 14, w ∈ lw_tbl)
  | 9, _ => exact (by decide +kernel : ∀ w ∈ u_ws RX9 TX9 2, w ∈ lw_tbl)
  | 10, _ => exact (by decide +kernel : ∀ w ∈ u_ws RX10 TX10 12, w ∈ lw_tbl)
  | 11, _ => exact (by decide +kernel : ∀ w ∈ u_ws RX11 TX11 15, w ∈ lw_tbl)
  | 12, _ => exact (by decide +kernel : ∀ w ∈ u_ws RX12 TX12 51, w ∈ lw_tbl)
/-- the words that stay true behind a call -/
def m_tb : List Cond := lw_tbl.filter goodWord
theorem m_tb_in {w : Cond} (h : w ∈ lw_tbl) (g : goodWord w = true) : w ∈ m_tb := List.mem_filter.mpr ⟨h, g⟩
theorem m_tb_good : ∀ w ∈ m_tb, goodWord w = true := fun _ h => (List.mem_filter.mp h).2
theorem m_inB {ci : Nat} (h : ci < 13) : ∀ w ∈ u_ws (m_nm ci) (m_T ci) (m_fn ci), w ∈ m_tb := by
  intro w hw
  refine m_tb_in (m_inT h w hw) ?_
  obtain ⟨k, -, rfl⟩ := List.mem_map.mp hw
  unfold u_lay
  split <;> rfl
theorem m_goodIn {y : MethodName} {cc : ByteArray} {nL : Nat} {ret : Option FieldType} (hc : Cond.code y cc nL ret ∈ m_tb) : GoodIn m_tb (Cond.code y cc nL ret :: m_tb) := by
  intro w hw
  have hw' : w ∈ m_tb := by
    rcases List.mem_cons.mp hw with rfl | h
    · exact hc
    · exact h
  exact ⟨hw', good_of_word (m_tb_good w hw')⟩
