/-! the reference's constructor, and the world with which the law begins -/
theorem arrV_c {cA : ClassId} {n : Nat} {f g : Nat → Value} (h : ∀ j, j < n → f j = g j) : arrV cA n f = arrV cA n g := by
  unfold arrV
  congr 1
  apply Array.ext
  · simp
  · intro i h1 h2
    simp at h1
    simp [h i h1]
theorem mw_in {K : m_K} {pc : Nat} {z : Nat × Nat} {lv : List (Nat × Value)} {st : List Value} {h h' : m_H} {Q : Option Value → m_H → Prop} (hn : h'.2.2.2.2 = h.2.2.2.2) (hI0 : ∀ (G : m_G) (H : Heap), m_In G h H → m_In G h' H) (kk : MW K pc z lv st h' Q) : MW K pc z lv st h Q := by
  intro p l e s m args below meth c G H locs ls n0 hC hI hS hlv hz hn0
  exact kk p l e s m args below meth c G H locs ls n0 hC (hI0 G H hI) hS hlv hz (by rw [hn]; exact hn0)
def wXe (W : m_H) : X_ := (W.1, W.2.1, fun k => k)
theorem m_In_q {W : m_H} (hk : W.2.2.2.1 62 = (104, 9)) (h62 : ∀ k, k < 9 → W.2.2.1 62 k = some (63 + 7 * k)) (G : m_G) (H : Heap) (hI : m_In G W H) : m_In G (m_w W.2.2 (wXe W)) H := by
  refine ⟨fun i q hq => ?_, hI.2⟩
  obtain ⟨hi, rfl⟩ := m_ws_of G _ hq
  have h0 := hI.1 i _ (m_ws_at G W hi)
  by_cases c : i = 62
  · subst c
    have e1 : m_E G W 62 = .inl (G.2.2.1 4, 9, .inr (.inr (.inr (.inr (fun j => (W.2.2.1 62 j).map (m_ad G)))))) := m_E_r ⟨hi, hk⟩ (by decide)
    have e2 : m_E G (m_w W.2.2 (wXe W)) 62 = .inl (G.2.2.1 4, 9, .inr (.inr (.inr (.inr (fun j => ((m_w W.2.2 (wXe W)).2.2.1 62 j).map (m_ad G)))))) := m_E_r ⟨hi, hk⟩ (by decide)
    rw [e1] at h0
    rw [e2]
    refine Eq.trans h0 (congrArg some ?_)
    show vp_cell _ (9, _) = vp_cell _ (9, _)
    rw [vp_cell_q, vp_cell_q]
    refine arrV_c (fun j hj => ?_)
    have e3 : (m_w W.2.2 (wXe W)).2.2.1 62 j = some (63 + 7 * j) := m_q_62 _ _ _
    rw [e3, h62 j hj]
  · have e : m_E G (m_w W.2.2 (wXe W)) i = m_E G W i := m_E_at rfl rfl (funext fun k => m_q_ne c) rfl
    rw [e]
    exact h0
def cpS (X : X_) : Nat → X_
  | 0 => X
  | k + 1 => sI (cpS X k) 220 k ((cpS X k).1 221 k)
def W11 : m_H := exw ew0 0 (kX11_init 0)
def W12 : m_H := exw W11 218 (kX12_init 218)
def X12a : X_ := setR (wXe W12) 221 (upS (fun k => if k < 226 then 0 else (wXe W12).1 221 k) 7 3)
def q12 : m_S := W12.2.2
set_option maxRecDepth 100000 in
set_option maxHeartbeats 4000000 in
theorem q12_M : isM q12 := ⟨⟨by decide +kernel, by decide +kernel⟩, by decide +kernel, ⟨by decide +kernel, by decide +kernel⟩, by decide +kernel, ⟨by decide +kernel, by decide +kernel⟩, by decide +kernel, ⟨by decide +kernel, by decide +kernel⟩, by decide +kernel, ⟨by decide +kernel, by decide +kernel⟩, by decide +kernel, ⟨by decide +kernel, by decide +kernel⟩, by decide +kernel, ⟨by decide +kernel, by decide +kernel⟩, by decide +kernel, ⟨by decide +kernel, by decide +kernel⟩, by decide +kernel, ⟨by decide +kernel, by decide +kernel⟩, by decide +kernel, ⟨by decide +kernel, by decide +kernel⟩, by decide +kernel, ⟨by decide +kernel, by decide +kernel⟩, by decide +kernel, ⟨by decide +kernel, by decide +kernel⟩, by decide +kernel, ⟨by decide +kernel, by decide +kernel⟩, by decide +kernel, ⟨by decide +kernel, by decide +kernel⟩, by decide +kernel, ⟨by decide +kernel, by decide +kernel⟩, by decide +kernel, ⟨by decide +kernel, by decide +kernel⟩, by decide +kernel, ⟨by decide +kernel, by decide +kernel⟩, by decide +kernel, ⟨by decide +kernel, by decide +kernel⟩, by decide +kernel, ⟨by decide +kernel, by decide +kernel⟩, by decide +kernel, ⟨by decide +kernel, by decide +kernel⟩, by decide +kernel, ⟨by decide +kernel, by decide +kernel⟩⟩
theorem q12_62 : W12.2.2.2.1 62 = (104, 9) := by decide +kernel
theorem W12_62 : ∀ k, k < 9 → W12.2.2.1 62 k = some (63 + 7 * k) := by decide +kernel
set_option maxRecDepth 100000 in
set_option maxHeartbeats 4000000 in
theorem cp_lp (d : Nat) {q : m_S} (hM : isM q) (X : X_) : ∀ (r i : Nat), i + r = 226 → MW (yX12_init.cls, cX12_init, 2, none, yX12_init.name, d + 4, 20, 5207) 504 (20, 5207) [(1, .int (nI i)), (0, .ref 218)] [] (m_w q (cpS X i)) (m_rn (m_w q (cpS X 226))) := by
  intro r
  induction r with
  | zero =>
    intro i hi
    obtain rfl : i = 226 := by omega
    refine mw_iload_n 0 dX12_init_504 rfl ?_
    refine mw_sipush (v := 226) dX12_init_505 (by decide) ?_
    refine mw_icmp_ge (tgt := 529) dX12_init_508 (by decide) (fun _ => ?_) (fun q => absurd (by decide) q)
    exact mw_return dX12_init_529 rfl ⟨rfl, rfl⟩ ⟨rfl, rfl⟩
  | succ r ih =>
    intro i hi
    have k := ih (i + 1) (by omega)
    refine mw_iload_n 0 dX12_init_504 rfl ?_
    refine mw_sipush (v := 226) dX12_init_505 (by decide) ?_
    refine mw_icmp_ge (tgt := 529) dX12_init_508 (by decide) (fun q => absurd ((nI_leI (a := 226) (by decide) (by omega)).mp q) (by omega)) (fun _ => ?_)
    refine mw_aload_n 1 dX12_init_511 rfl ?_
    refine mw_getr 12 6 dX12_init_512 fl_X12_33 (by decide) (by decide) rfl (mo_o hM) ((m_q_ne (by decide)).trans (mo_r6 hM)) ?_
    refine mw_iload_n 0 dX12_init_515 rfl ?_
    refine mw_aload_n 1 dX12_init_516 rfl ?_
    refine mw_getr 12 7 dX12_init_517 fl_X12_37 (by decide) (by decide) rfl (mo_o hM) ((m_q_ne (by decide)).trans (mo_r7 hM)) ?_
    refine mw_iload_n 0 dX12_init_520 rfl ?_
    refine mw_iaN i dX12_init_521 (mo_a7 hM) (by omega) (by decide) rfl ?_
    refine mw_isN i dX12_init_522 (mo_a6 hM) (by omega) (by decide) rfl ?_
    refine mw_iinc 0 (nI (i + 1)) [(1, .int (nI (i + 1))), (0, .ref 218)] dX12_init_523 rfl (nI_1 ..) (Nat.le_of_ble_eq_true rfl) rfl ?_
    exact mw_goto (tgt := 504) dX12_init_526 (by decide) k
def X12 : X_ := cpS X12a 226
set_option maxRecDepth 100000 in
set_option maxHeartbeats 4000000 in
theorem c_X12_init (d : Nat) : MC yX12_init cX12_init 2 none (d + 4) 20 5207 [.ref 218] (exw W11 218 (m_nw ew0 12 0)) (m_rn (m_w q12 X12)) := by
  refine mc_of (by decide +kernel) (Nat.le_of_ble_eq_true rfl) ?_
  refine k_X12_init d 218 W11 (by decide) ?_
  refine mw_in (h' := m_w q12 (wXe W12)) rfl (m_In_q (W := W12) q12_62 W12_62) ?_
  refine mw_aload_n 0 dX12_init_498 rfl ?_
  refine mw_callV (rest := []) (As := []) (mc := 0) (ms := 0) (aX12_clears (d + 2) q12 q12_M (wXe W12) () X12a e_clears) mY_X12_clears dX12_init_499 ml_X12_166 (mo_o q12_M) rfl rfl (Nat.le_of_ble_eq_true rfl) ⟨Nat.le_refl _, Nat.le_refl _⟩ (fun r0 h0 q0 => ?_)
  obtain ⟨rfl, rfl⟩ := q0
  refine mw_iconst (v := 0) dX12_init_502 rfl ?_
  refine mw_istore_n [(1, .int 0), (0, .ref 218)] dX12_init_503 (Nat.le_of_ble_eq_true rfl) rfl ?_
  exact cp_lp d q12_M X12a 226 0 rfl
