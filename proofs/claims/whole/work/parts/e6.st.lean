/-! what the Statement gives of the start -/
def tmS (i : Nat) : Term := .string (m_strs.getD i (RX10, 0, "", 0)).1 (m_strs.getD i (RX10, 0, "", 0)).2.1
def gvL : List Cond := flatC (Cond.and given_1 narrow_1)
def gvE : List Nat := [54, 237, 246, 256, 271, 285, 307, 333]
def gvN : List (List Nat) := [[0, 245, 254, 268, 281, 302, 327, 351], [245, 0, 255, 269, 282, 303, 328, 352], [254, 255, 0, 270, 283, 304, 329, 353], [268, 269, 270, 0, 284, 305, 330, 354], [281, 282, 283, 284, 0, 306, 331, 355], [302, 303, 304, 305, 306, 0, 332, 356], [327, 328, 329, 330, 331, 332, 0, 357], [351, 352, 353, 354, 355, 356, 357, 0]]
theorem gv_1 : ∀ i, i < 8 → gvL[gvE.getD i 0]? = some (Cond.exactly (tmS i) "java/lang/String") := by decide +kernel
theorem gv_2 : ∀ i, i < 8 → gvL[gvE.getD i 0 + 1]? = some (Cond.eq (.field (tmS i) "java/lang/String" "coder" "B") (.int 0)) := by decide +kernel
theorem gv_3 : ∀ i, i < 8 → gvL[gvE.getD i 0 + 2]? = some (Cond.arrayOf (.field (tmS i) "java/lang/String" "value" "[B") .byte) := by decide +kernel
theorem gv_4 : ∀ i, i < 8 → gvL[gvE.getD i 0 + 3]? = some (Cond.eq (.length (.field (tmS i) "java/lang/String" "value" "[B")) (.int (Int32.ofNat (m_len.getD i 0)))) := by decide +kernel
set_option maxRecDepth 100000 in
theorem gv_5 : ∀ i, i < 8 → ∀ j, j < m_len.getD i 0 → gvL[gvE.getD i 0 + 4 + j]? = some (Cond.eq (.elem (.field (tmS i) "java/lang/String" "value" "[B") (.int (Int32.ofNat j))) (.int ((m_byt.getD i []).getD j 0))) := by decide +kernel
theorem gv_6 : ∀ i, i < 8 → ∀ j, j < 8 → i ≠ j → gvL[(gvN.getD i []).getD j 0]? = some (Cond.not (Cond.eq (tmS i) (tmS j))) ∨ gvL[(gvN.getD i []).getD j 0]? = some (Cond.not (Cond.eq (tmS j) (tmS i))) := by decide +kernel
theorem gv_c : gvL[4]? = some (Cond.eq (.static "java/lang/String" "COMPACT_STRINGS" "Z") (.int 1)) := by decide +kernel
theorem gv_s : gvL[5]? = some (Cond.isRef (.static "jdk/internal/util/Preconditions" "SIOOBE_FORMATTER" "Ljava/util/function/BiFunction;")) := by decide +kernel
theorem gv_u : gvL[9]? = some (Cond.isRef (.static Bundle.tN "UNASSIGNED_STACK" Bundle.steD)) := by decide +kernel
theorem gv_n : gvL[10]? = some (Cond.isRef (.static Bundle.tN "SUPPRESSED_SENTINEL" Bundle.listD)) := by decide +kernel
theorem st_in : ∀ ci, ci < 13 → Cond.instantiable (m_nm ci) (m_fn ci) ∈ lw_tbl := by
  intro ci h
  match ci, h with
  | 0, _ => exact (List.mem_filter.mp il_X0).1
  | 1, _ => exact (List.mem_filter.mp il_X1).1
  | 2, _ => exact (List.mem_filter.mp il_X2).1
  | 3, _ => exact (List.mem_filter.mp il_X3).1
  | 4, _ => exact (List.mem_filter.mp il_X4).1
  | 5, _ => exact (List.mem_filter.mp il_X5).1
  | 6, _ => exact (List.mem_filter.mp il_X6).1
  | 7, _ => exact (List.mem_filter.mp il_X7).1
  | 8, _ => exact (List.mem_filter.mp il_X8).1
  | 9, _ => exact (List.mem_filter.mp il_X9).1
  | 10, _ => exact (List.mem_filter.mp il_X10).1
  | 11, _ => exact (List.mem_filter.mp il_X11).1
  | 12, _ => exact (List.mem_filter.mp il_X12).1
theorem st_ne : ∀ q ∈ m_nest, Cond.methodLinkNest q.1 q.2.1 q.2.2 RX11 ∈ lw_tbl := by decide +kernel
theorem st_sr : ∀ q ∈ m_strs, Cond.stringRef q.1 q.2.1 q.2.2.1 ∈ lw_tbl := by decide +kernel
def st_wl : List Cond := [Cond.arrayOver (.object RX8), Cond.arrayOver (.object RX4), Cond.laysStatic "java/lang/String" "COMPACT_STRINGS" "Z", Cond.initialized "java/lang/String", Cond.laysStatic "jdk/internal/util/Preconditions" "SIOOBE_FORMATTER" "Ljava/util/function/BiFunction;", Cond.initialized "jdk/internal/util/Preconditions", Cond.laysStatic Bundle.tN "UNASSIGNED_STACK" Bundle.steD, Cond.laysStatic Bundle.tN "SUPPRESSED_SENTINEL" Bundle.listD, Cond.initialized Bundle.tN, Cond.castable nsE nsE, Cond.declares (Bundle.initS "java/lang/RuntimeException"), Cond.declares (Bundle.initS "java/lang/Exception"), Cond.declares (Bundle.initS Bundle.tN)]
theorem st_w : ∀ w ∈ st_wl, w ∈ lw_tbl := by decide +kernel
section ST
variable {b : Nat} {s : State}
theorem st_K (hts : ∀ w ∈ lw_tbl, w.before #[Value.ref b] s = true) : ∃ D : va_G, ∀ (k : Nat) (q : vw_C), vwCl[k]? = some q → u_Kn s q.1 q.2.1 q.2.2 (D.1 k) (D.2 k) := by
  have h : ∀ ci : Nat, ∃ p : ClassId × (Nat → Nat), ci < 13 → u_Kn s (m_nm ci) (m_T ci) (m_fn ci) p.1 p.2 := by
    intro ci
    by_cases hc : ci < 13
    · obtain ⟨cC, iS, hk⟩ := u_known (C := m_nm ci) (T := m_T ci) (N := m_fn ci) (n := m_fn ci) hts (m_inT hc) (hts _ (st_in ci hc))
      exact ⟨(cC, iS), fun _ => hk⟩
    · exact ⟨(0, fun _ => 0), fun z => absurd z hc⟩
  refine ⟨(fun k => (Classical.choose (h k)).1, fun k => (Classical.choose (h k)).2), fun k q hq => ?_⟩
  have hk : k < 13 := (List.getElem?_eq_some_iff.mp hq).1
  rw [m_cl hk] at hq
  cases hq
  exact Classical.choose_spec (h k) hk
theorem st_p {ty : FieldType} (h : (Cond.arrayClass ty).before #[Value.ref b] s = true) : ∃ cA : ClassId, ArrOfT s cA ty ∧ s.vm.findClass ("[" ++ ty.toString) = some cA := by
  obtain ⟨cA, kA, comp, hfind, hk, hkind⟩ := Cond.arrayClass_spec h
  exact ⟨cA, fun n z => ⟨fun k h => (by cases h), kA, hk, comp, hkind⟩, hfind⟩
theorem st_o {C : String} (h : (Cond.arrayOver (.object C)).before #[Value.ref b] s = true) : ∃ cA : ClassId, ArrOfT s cA (.object C) ∧ va_RA s cA (.object C) := by
  obtain ⟨comp, cA, kA, hcomp, hidx, hkA, hkind, hname⟩ := Cond.arrayOver_spec h
  exact ⟨cA, fun n z => ⟨fun k h => (by cases h), kA, hkA, comp, hkind⟩, kA, comp, hkA, hkind, hcomp, hname⟩
theorem st_A (hts : ∀ w ∈ lw_tbl, w.before #[Value.ref b] s = true) : ∃ C : Nat → ClassId, ∀ (k : Nat) (q : ClassId × FieldType), ([(C 0, .int), (C 1, .long), (C 2, .byte), (C 3, .boolean), (C 4, .object RX8), (C 5, .object RX4)] : List (ClassId × FieldType))[k]? = some q → ArrOfT s q.1 q.2 ∧ va_RA s q.1 q.2 := by
  have mm : ∀ {w : Cond}, w ∈ m_tb → w.before #[Value.ref b] s = true := fun h => hts _ (List.mem_filter.mp h).1
  obtain ⟨c0, a0, f0⟩ := st_p (mm al_int)
  obtain ⟨c1, a1, f1⟩ := st_p (mm al_long)
  obtain ⟨c2, a2, f2⟩ := st_p (mm al_byte)
  obtain ⟨c3, a3, f3⟩ := st_p (mm al_boolean)
  obtain ⟨c4, a4, f4⟩ := st_o (hts _ (st_w _ (List.mem_of_getElem? (i := 0) rfl)))
  obtain ⟨c5, a5, f5⟩ := st_o (hts _ (st_w _ (List.mem_of_getElem? (i := 1) rfl)))
  refine ⟨fun t => if t = 0 then c0 else if t = 1 then c1 else if t = 2 then c2 else if t = 3 then c3 else if t = 4 then c4 else c5, fun k q hq => ?_⟩
  match k, hq with
  | 0, hq => cases hq; exact ⟨a0, f0⟩
  | 1, hq => cases hq; exact ⟨a1, f1⟩
  | 2, hq => cases hq; exact ⟨a2, f2⟩
  | 3, hq => cases hq; exact ⟨a3, f3⟩
  | 4, hq => cases hq; exact ⟨a4, f4⟩
  | 5, hq => cases hq; exact ⟨a5, f5⟩
  | k + 6, hq => cases hq
theorem st_S (hgv : (Cond.and given_1 narrow_1).before #[Value.ref b] s = true) {A : Nat → Prop} (hA : ∀ a : Nat, a < s.heap.size → ¬ A a) : ∃ adK adV : Nat → Nat, vk_S 8 m_len m_byt adK adV A s s.heap ∧ ∀ i : Nat, i < 8 → (tmS i).eval #[Value.ref b] s none [] s = some (.ref (adK i)) := by
  have hs := flat_of_before _ hgv
  have at_ : ∀ {k : Nat} {c : Cond}, gvL[k]? = some c → c.before #[Value.ref b] s = true := fun h => hs _ (List.mem_of_getElem? h)
  exact vk_Sof (N := 8) (tm := tmS) (len := m_len) (byt := m_byt) (by decide) (fun i hi => at_ (gv_1 i hi)) (fun i hi => at_ (gv_2 i hi)) (fun i hi => at_ (gv_3 i hi)) (fun i hi => at_ (gv_4 i hi)) (fun i hi j hj => at_ (gv_5 i hi j hj)) (fun i j hi hj hn => (gv_6 i hi j hj hn).elim (fun h => Or.inl (at_ h)) (fun h => Or.inr (at_ h))) hA
theorem st_KK (hts : ∀ w ∈ lw_tbl, w.before #[Value.ref b] s = true) (hgv : (Cond.and given_1 narrow_1).before #[Value.ref b] s = true) : ∃ G : m_G, G.1 = s.heap.size ∧ G.2.2.2 1300000 = b ∧ m_KK G s ∧ xKK G s := by
  have hs := flat_of_before _ hgv
  have at_ : ∀ {k : Nat} {c : Cond}, gvL[k]? = some c → c.before #[Value.ref b] s = true := fun h => hs _ (List.mem_of_getElem? h)
  have sw : ∀ w ∈ st_wl, w.before #[Value.ref b] s = true := fun w hw => hts w (st_w w hw)
  obtain ⟨D, hD⟩ := st_K hts
  obtain ⟨C, hC⟩ := st_A hts
  have hA : ∀ a : Nat, a < s.heap.size → ¬ (fun q : Nat => s.heap.size ≤ q) a := fun a h => Nat.not_le.mpr h
  obtain ⟨adK, adV, hv, he⟩ := st_S hgv hA
  have hF : ∃ t : Nat, va_Z "jdk/internal/util/Preconditions" "SIOOBE_FORMATTER" "Ljava/util/function/BiFunction;" .null (fun q : Nat => s.heap.size ≤ q) s s.heap ∨ va_Z "jdk/internal/util/Preconditions" "SIOOBE_FORMATTER" "Ljava/util/function/BiFunction;" (.ref t) (fun q : Nat => s.heap.size ≤ q) s s.heap := by
    rcases va_Zqof (sw _ (List.mem_of_getElem? (i := 4) rfl)) (sw _ (List.mem_of_getElem? (i := 5) rfl)) (at_ gv_s) hA with h | ⟨t, h⟩
    · exact ⟨0, Or.inl h⟩
    · exact ⟨t, Or.inr h⟩
  obtain ⟨t, hF⟩ := hF
  obtain ⟨N, n0, n1, nK, nV⟩ : ∃ N : Nat → Nat, N 1300000 = b ∧ N 1200000 = t ∧ (∀ i, i < 8 → N (1000000 + i) = adK i) ∧ ∀ i, i < 8 → N (1100000 + i) = adV i := by
    refine ⟨fun i => if i = 1300000 then b else if i = 1200000 then t else if i < 1100000 then adK (i - 1000000) else adV (i - 1100000), ?_, ?_, fun i hi => ?_, fun i hi => ?_⟩
    · exact if_pos rfl
    · show (if 1200000 = 1300000 then b else if 1200000 = 1200000 then t else if 1200000 < 1100000 then adK (1200000 - 1000000) else adV (1200000 - 1100000)) = t
      rw [if_neg (by decide), if_pos rfl]
    · show (if 1000000 + i = 1300000 then b else if 1000000 + i = 1200000 then t else if 1000000 + i < 1100000 then adK (1000000 + i - 1000000) else adV (1000000 + i - 1100000)) = adK i
      rw [if_neg (by omega), if_neg (by omega), if_pos (by omega), Nat.add_sub_cancel_left]
    · show (if 1100000 + i = 1300000 then b else if 1100000 + i = 1200000 then t else if 1100000 + i < 1100000 then adK (1100000 + i - 1000000) else adV (1100000 + i - 1100000)) = adV i
      rw [if_neg (by omega), if_neg (by omega), if_neg (by omega), Nat.add_sub_cancel_left]
  refine ⟨(s.heap.size, D, C, N), rfl, n0, ⟨⟨hD, hC⟩, va_AO.of (sw _ (List.mem_of_getElem? (i := 0) rfl)), va_AO.of (sw _ (List.mem_of_getElem? (i := 1) rfl)), fun q hq => va_Nw.of rfl (hts _ (st_ne q hq)), fun q hq => ?_, ⟨⟨fun i hi => ?_, fun i j hi hj e => ?_⟩, ?_⟩, va_Zof (sw _ (List.mem_of_getElem? (i := 2) rfl)) (sw _ (List.mem_of_getElem? (i := 3) rfl)) (va_eqi (at_ gv_c)) hA⟩, ?_⟩
  · obtain ⟨i, hi⟩ := List.getElem?_of_mem hq
    have i8 : i < 8 := (List.getElem?_eq_some_iff.mp hi).1
    have e1 : m_strs.getD i (RX10, 0, "", 0) = q := by rw [List.getD_eq_getElem?_getD, hi]; rfl
    have e2 : q.2.2.2 = 1000000 + i := by
      have : ∀ i, i < 8 → (m_strs.getD i (RX10, 0, "", 0)).2.2.2 = 1000000 + i := by decide
      rw [← e1]; exact this i i8
    have e3 := he i i8
    unfold tmS at e3
    rw [e1] at e3
    show vk_R q.1 q.2.1 q.2.2.1 (N q.2.2.2) s
    rw [e2, nK i i8]
    exact vk_R.of (hts _ (st_sr q hq)) e3
  · dsimp only
    rw [nK i hi, nV i hi]
    exact hv.1 i hi
  · dsimp only at e
    rw [nK i hi, nK j hj] at e
    exact hv.2 i j hi hj e
  · show va_Z _ _ _ .null _ s s.heap ∨ va_Z _ _ _ (.ref (N 1200000)) _ s s.heap
    rw [n1]
    exact hF
  · exact ⟨vx_Zqof (sw _ (List.mem_of_getElem? (i := 6) rfl)) (sw _ (List.mem_of_getElem? (i := 8) rfl)) (at_ gv_u) hA, vx_Zqof (sw _ (List.mem_of_getElem? (i := 7) rfl)) (sw _ (List.mem_of_getElem? (i := 8) rfl)) (at_ gv_n) hA, va_Nw.of rfl (sw _ (List.mem_of_getElem? (i := 9) rfl)), va_Nw.of rfl (sw _ (List.mem_of_getElem? (i := 10) rfl)), va_Nw.of rfl (sw _ (List.mem_of_getElem? (i := 11) rfl)), va_Nw.of rfl (sw _ (List.mem_of_getElem? (i := 12) rfl))⟩
end ST
theorem in_new {G : m_G} {h : m_H} {ci n : Nat} {H : Heap} (hn : h.2.2.2.2 = n) (hI : m_In G (m_nw h ci 0) H) : m_In G (exw h n (m_nw ew0 ci 0)) H := by
  subst hn
  have hw : m_ws G (exw h h.2.2.2.2 (m_nw ew0 ci 0)) = m_ws G (m_nw h ci 0) := by
    unfold m_ws
    refine List.map_congr_left (fun j hj => ?_)
    have hj' : j < h.2.2.2.2 + 1 := List.mem_range.mp hj
    have e : ∀ {α : Type} {x y z : α}, (j = h.2.2.2.2 → x = y) → (if j < h.2.2.2.2 then z else x) = (if j = h.2.2.2.2 then y else z) := by
      intro α x y z q
      by_cases c : j = h.2.2.2.2
      · rw [if_pos c, if_neg (by omega)]; exact q c
      · rw [if_neg c, if_pos (by omega)]
    have e4 : m_E G (exw h h.2.2.2.2 (m_nw ew0 ci 0)) j = m_E G (m_nw h ci 0) j := by
      refine m_E_at (funext fun k => ?_) (funext fun k => ?_) (funext fun k => ?_) ?_
      · exact e (fun c => if_pos (by rw [c, Nat.sub_self]; rfl))
      · exact e (fun c => if_pos (by rw [c, Nat.sub_self]; rfl))
      · exact e (fun c => if_pos (by rw [c, Nat.sub_self]; rfl))
      · exact e (fun c => if_pos (by rw [c, Nat.sub_self]; rfl))
    rw [e4]
  exact ⟨by rw [hw]; exact hI.1, hI.2⟩
theorem W11_n : W11.2.2.2.2 = 218 := by decide +kernel
set_option maxRecDepth 100000 in
theorem l_start {g : g_C} {L : Nat} {xs : Nat → Int32} {nm : String} (hL : lC g L xs nm) (hz : (g_s g).heap.size = (g_G g).1) : GW (lK nm) g 0 (0, 0) [(0, .ref 1300000)] [] ew0 := by
  have hC := hL.1
  refine gw_new hC 11 dL_law_0 kl_L_8 il_X11 in_X11 (by decide) (by rw [hL.2.2.1]; exact ⟨Nat.le_of_ble_eq_true rfl, Nat.le_of_ble_eq_true rfl⟩) (by decide) hz rfl ?_
  refine gw_in (h' := exw ew0 0 (m_nw ew0 11 0)) (fun H hI => in_new rfl hI) ?_
  show GW (lK nm) g 3 (1, 15) [(0, .ref 1300000)] [.ref 0] (exw ew0 0 (m_nw ew0 11 0))
  refine gw_dup hC dL_law_3 rfl ?_
  refine gw_callI (n := 0) (As := []) (b := 0) (rest := [.ref 0]) hC (c_X11_init 0 0 ew0 (by decide)) mY_X11_init dL_law_4 ml_L_19 (by decide) (by rw [hL.2.2.1]; exact ⟨Nat.le_of_ble_eq_true rfl, Nat.le_of_ble_eq_true rfl⟩) rfl (Nat.le_of_ble_eq_true rfl) (by rw [hL.2.2.1]; exact ⟨Nat.le_of_ble_eq_true rfl, Nat.le_of_ble_eq_true rfl⟩) hz rfl rfl (fun r h' q => ?_)
  obtain ⟨rfl, rfl⟩ := q
  show GW (lK nm) g 7 (218, 4665) [(0, .ref 1300000)] [.ref 0] W11
  refine gw_astore_n hC [(1, .ref 0), (0, .ref 1300000)] dL_law_7 (Nat.le_of_ble_eq_true rfl) rfl ?_
  refine gw_new hC 12 dL_law_8 kl_L_20 il_X12 in_X12 (by decide) (by rw [hL.2.2.1]; exact ⟨Nat.le_of_ble_eq_true rfl, Nat.le_of_ble_eq_true rfl⟩) (by rw [W11_n]; decide) hz W11_n ?_
  rw [W11_n]
  refine gw_in (h' := exw W11 218 (m_nw ew0 12 0)) (fun H hI => in_new W11_n hI) ?_
  show GW (lK nm) g 11 (219, 4716) [(1, .ref 0), (0, .ref 1300000)] [.ref 218] (exw W11 218 (m_nw ew0 12 0))
  refine gw_dup hC dL_law_11 rfl ?_
  refine gw_callI (n := 0) (As := []) (b := 218) (rest := [.ref 218]) hC (c_X12_init 0) mY_X12_init dL_law_12 ml_L_22 (by decide) (by rw [hL.2.2.1]; exact ⟨Nat.le_of_ble_eq_true rfl, Nat.le_of_ble_eq_true rfl⟩) rfl (Nat.le_of_ble_eq_true rfl) (by rw [hL.2.2.1]; exact ⟨Nat.le_of_ble_eq_true rfl, Nat.le_of_ble_eq_true rfl⟩) hz rfl rfl (fun r h' q => ?_)
  obtain ⟨rfl, rfl⟩ := q
  show GW (lK nm) g 15 (239, 9923) [(1, .ref 0), (0, .ref 1300000)] [.ref 218] (m_w q12 X12)
  refine gw_astore_n hC [(2, .ref 218), (1, .ref 0), (0, .ref 1300000)] dL_law_15 (Nat.le_of_ble_eq_true rfl) rfl ?_
  refine gw_iconst hC (v := 1) dL_law_16 rfl ?_
  have hn : (m_w q12 X12).2.2.2.2 = 239 := by decide +kernel
  refine gw_newl hC (N := 1) rfl dL_law_17 (by decide) (by decide) (by rw [hL.2.2.1]; exact ⟨Nat.le_of_ble_eq_true rfl, Nat.le_of_ble_eq_true rfl⟩) (by rw [hn]; decide) hz hn ?_
  rw [hn]
  refine gw_in (h' := m_w qL X12) (fun H hI => m_In_L hI) ?_
  show GW (lK nm) g 19 (240, 9924) [(2, .ref 218), (1, .ref 0), (0, .ref 1300000)] [.ref 239] (m_w qL X12)
  refine gw_astore_n hC [(3, .ref 239), (2, .ref 218), (1, .ref 0), (0, .ref 1300000)] dL_law_19 (Nat.le_of_ble_eq_true rfl) rfl ?_
  refine gw_iconst hC (v := 0) dL_law_20 rfl ?_
  refine gw_istore hC [(4, .int 0), (3, .ref 239), (2, .ref 218), (1, .ref 0), (0, .ref 1300000)] dL_law_21 (Nat.le_of_ble_eq_true rfl) rfl ?_
  exact l_lp hL (L + 1) 0 X12 Inv_12 (Nat.zero_le _) (by omega)
