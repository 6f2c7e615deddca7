theorem lo_inv {α : Type} {I : α → Prop} {f : Nat → α → α} {x : α} (h0 : I x) : ∀ n, (∀ i y, i < n → I y → I (f i y)) → I (lo f n x) := by
  intro n
  induction n with
  | zero => intro _; exact h0
  | succ n ih => intro hs; exact hs n _ (Nat.lt_succ_self n) (ih (fun i y hi => hs i y (by omega)))
def okA (P V : m_V) : Prop := ∀ t, t < ct P 6 → V 4 t = -1 ∨ ∃ a, a < 12 ∧ V 4 t = nI a
def okH (P V : m_V) : Prop := ∀ r, r < ct P 4 → V 1 r = 1 → ¬ P 12 r = 0
def okS (P V : m_V) : Prop := okA P V ∧ okH P V
/-- a plan that was read: what its rows lead to is there -/
def wfP (P : m_V) : Prop := okP P ∧ (∀ r, r < ct P 4 → ∃ g, P 11 r = nI g ∧ g < 8) ∧ (∀ r, r < ct P 4 → ¬ P 12 r = 0 → ∃ c, c < 12 ∧ P 13 (r * 6) = nI c) ∧ (∀ k, k < ct P 2 → (∃ c, c < 12 ∧ P 5 k = nI c) ∧ ∃ c, c < 12 ∧ P 6 k = nI c)
def isG (g : Int32) : Prop := g = -1 ∨ g = -2 ∨ ∃ c, c < 12 ∧ g = nI c
theorem leadsTo_ok {P : m_V} (hw : wfP P) {k : Nat} (hk : k < ct P 2) (f w : Int32) : p_leadsTo P k f w = -1 ∨ ∃ c, c < 12 ∧ p_leadsTo P k f w = nI c := by
  obtain ⟨⟨a, ha, ea⟩, ⟨b, hb, eb⟩⟩ := hw.2.2.2 k hk
  unfold p_leadsTo
  by_cases e : w = 0
  · simp only [if_pos e]
    split
    · exact Or.inr ⟨b, hb, eb⟩
    · exact Or.inl rfl
  · simp only [if_neg e]
    split
    · exact Or.inr ⟨a, ha, ea⟩
    · exact Or.inl rfl
theorem gbtL_ok {P : m_V} (hw : wfP P) (V : m_V) (t : Nat) : ∀ (m k : Nat) (w : Int32), k + m = ct P 2 → isG w → isG (s_gbtL P V t k m w) := by
  intro m
  induction m with
  | zero => intro k w _ h; exact h
  | succ m ih =>
    intro k w hk h
    unfold s_gbtL
    split
    · exact ih _ _ (by omega) h
    · rename_i c
      split
      · rcases leadsTo_ok hw (k := k) (by omega) (V 4 t) (P 20 t) with e | e
        · exact absurd e c
        · exact Or.inr (Or.inr e)
      · exact ih _ _ (by omega) (Or.inr (Or.inl rfl))
theorem gbs_ok {P V : m_V} (hw : wfP P) (ho : okS P V) (g : Int32) : isG (s_gbs P V g) := by
  unfold s_gbs
  split
  · exact Or.inr (Or.inl rfl)
  · rename_i c
    rcases ff_cases (fun r => decide (P 11 r = g ∧ V 1 r = 1)) (ct P 4) 0 with e | ⟨q, -, h2, h3, h4⟩
    · exact absurd e c
    · have h3 : s_setRouteOf P V g = nI q := h3
      have hb := hw.1.2.2.2.2.1.2
      rw [h3, nI_clamp (by omega)]
      simp only [decide_eq_true_eq] at h4
      obtain ⟨c, hc, e⟩ := hw.2.2.1 q (by omega) (ho.2 q (by omega) h4.2)
      exact Or.inr (Or.inr ⟨c, hc, e⟩)
theorem goal_ok {P V : m_V} (hw : wfP P) (ho : okS P V) (t : Nat) : isG (s_goal P V t) := by
  unfold s_goal
  split
  · exact gbtL_ok hw V t _ _ _ (by omega) (Or.inl rfl)
  · exact gbs_ok hw ho _
theorem ok_how {P V : m_V} (ho : okS P V) (r : Nat) {x : Int32} (hx : ¬ x = 1) : okS P (u2 V 1 r x) := by
  refine ⟨ho.1, fun q hq e => ?_⟩
  simp only [u2] at e
  split at e
  · exact absurd e hx
  · exact ho.2 q hq e
theorem ok_at {P V : m_V} (ho : okS P V) (t : Nat) {c : Int32} (hc : c = -1 ∨ ∃ a, a < 12 ∧ c = nI a) : okS P (u2 V 4 t c) := by
  refine ⟨fun q hq => ?_, ho.2⟩
  simp only [u2]
  split
  · exact hc
  · exact ho.1 q hq
theorem ok_row {P V : m_V} (ho : okS P V) {j k : Nat} {x : Int32} (h1 : ¬ j = 1) (h4 : ¬ j = 4) : okS P (u2 V j k x) := by
  refine ⟨fun q hq => ?_, fun q hq e => ?_⟩
  · have : ¬ 4 = j := fun e => h4 e.symm
    simp only [u2, this, false_and, if_false]
    exact ho.1 q hq
  · have : ¬ 1 = j := fun e => h1 e.symm
    simp only [u2, this, false_and, if_false] at e
    exact ho.2 q hq e
theorem goalV_ok {P V : m_V} (ho : okS P V) (t : Nat) : okS P (s_goalV P V t) := by
  unfold s_goalV
  split
  · exact ho
  · unfold s_gbsV
    split
    · exact ho
    · exact ok_row (ok_how ho _ (by decide)) (by decide) (by decide)
theorem crashV_ok {P V : m_V} (ho : okS P V) (t : Nat) (c : Int32) : okS P (s_crashV P V t c) :=
  ok_row (ok_row (ok_row ho (by decide) (by decide)) (by decide) (by decide)) (by decide) (by decide)
theorem enterV_ok {P V : m_V} (ho : okS P V) (t : Nat) {c : Int32} (hc : c = -1 ∨ ∃ a, a < 12 ∧ c = nI a) : okS P (s_enterV P V t c) := by
  unfold s_enterV
  refine lo_inv ?_ _ (fun r W _ h => ?_)
  · unfold s_ent1
    have := ok_row (P := P) (j := 5) (k := t) (x := 0) (ok_at ho t hc) (by decide) (by decide)
    by_cases q : (if c = -1 then -1 else s_leastTrainIn P V c (nI t)) = -1
    · rw [if_pos q]; exact this
    · rw [if_neg q]; exact crashV_ok this t c
  · split
    · exact ok_how h _ (by decide)
    · exact h
theorem runV_ok {P V : m_V} (hw : wfP P) (ho : okS P V) (t : Nat) : okS P (s_runV P V t) := by
  have h1 := ok_row (P := P) (j := 5) (k := t) (x := V 5 t + 1) ho (by decide) (by decide)
  unfold s_runV
  split
  · unfold s_moveV
    have h2 := goalV_ok h1 t
    split
    · exact ok_row (ok_row h2 (by decide) (by decide)) (by decide) (by decide)
    · rename_i c
      refine enterV_ok h2 t ?_
      rcases goal_ok hw h1 t with e | e | e
      · exact Or.inl e
      · exact absurd e c
      · exact Or.inr e
  · exact h1
def s_t1 (P V : m_V) : m_V := lo (fun t W => if W 4 t = -1 ∨ ¬ (W 0 6 >>> (nI t &&& 31)) &&& 1 = 0 then W else s_runV P W t) (ct P 6) (u2 V 0 7 0)
def s_t2 (P W : m_V) : m_V := lo (fun r W => if W 1 r = 3 then (if 0 < W 2 r - 1 then u2 W 2 r (W 2 r - 1) else u2 (u2 W 2 r (W 2 r - 1)) 1 r 0) else W) (ct P 4) W
def s_tickV (P V : m_V) : m_V := u2 (s_t2 P (s_t1 P V)) 0 1 (s_t2 P (s_t1 P V) 0 1 + 1)
theorem t1_ok {P V : m_V} (hw : wfP P) (ho : okS P V) (n : Nat) : okS P (lo (fun t W => if W 4 t = -1 ∨ ¬ (W 0 6 >>> (nI t &&& 31)) &&& 1 = 0 then W else s_runV P W t) n (u2 V 0 7 0)) := by
  refine lo_inv (ok_row ho (by decide) (by decide)) _ (fun t W _ h => ?_)
  split
  · exact h
  · exact runV_ok hw h t
theorem tickV_ok {P V : m_V} (hw : wfP P) (ho : okS P V) : okS P (s_tickV P V) := by
  refine ok_row ?_ (by decide) (by decide)
  refine lo_inv (t1_ok hw ho _) _ (fun r W _ h => ?_)
  split
  · split
    · exact ok_row h (by decide) (by decide)
    · exact ok_how (ok_row h (by decide) (by decide)) _ (by decide)
  · exact h
theorem setV_ok {P V : m_V} (ho : okS P V) (r : Nat) : okS P (s_setV P V r) := by
  unfold s_setV
  split
  · rename_i c
    refine ⟨ho.1, fun q hq e => ?_⟩
    simp only [u2] at e
    split at e
    · rename_i c2
      rw [c2.2]
      intro e0
      unfold s_whyNotSet at c
      rw [if_pos e0] at c
      repeat (first | (split at c) | (exact absurd c (by decide)))
    · exact ho.2 q hq e
  · exact ho
theorem backV_ok {P V : m_V} (ho : okS P V) (r : Nat) : okS P (s_backV P V r) := by
  unfold s_backV
  split
  · split
    · exact ok_row (ok_how ho _ (by decide)) (by decide) (by decide)
    · exact ok_how ho _ (by decide)
  · exact ho
theorem throwV_ok {P V : m_V} (ho : okS P V) (k : Nat) : okS P (s_throwV P V k) := by
  unfold s_throwV
  split
  · exact ok_row ho (by decide) (by decide)
  · exact ho
theorem failV_ok {P V : m_V} (ho : okS P V) (k f : Int32) : okS P (s_failV V k f) := by
  unfold s_failV
  split
  · exact ho
  · exact ok_row (ok_row ho (by decide) (by decide)) (by decide) (by decide)
theorem mendV_ok {P V : m_V} (ho : okS P V) (k : Int32) : okS P (s_mendV V k) := by
  unfold s_mendV
  split
  · exact ho
  · exact ok_row (ok_row ho (by decide) (by decide)) (by decide) (by decide)
theorem performV_ok {P V : m_V} (ho : okS P V) (w : Int32) (k : Nat) (f : Int32) : okS P (s_performV P V w k f) := by
  unfold s_performV
  split
  · exact setV_ok ho k
  · split
    · exact backV_ok ho k
    · split
      · exact throwV_ok ho k
      · split
        · exact failV_ok ho _ _
        · exact mendV_ok ho _
def s_lotV (P V : m_V) (lot : Int32) (k : Nat) : m_V := if lot = 2 then s_throwV P V k else if V 1 k = 1 then s_backV P V k else s_setV P V k
theorem lotV_ok {P V : m_V} (ho : okS P V) (lot : Int32) (k : Nat) : okS P (s_lotV P V lot k) := by
  unfold s_lotV
  split
  · exact throwV_ok ho k
  · split
    · exact backV_ok ho k
    · exact setV_ok ho k
/-- n ticks, as far as the last one -/
def s_tk (P : m_V) : Nat → m_V → Nat × m_V
  | 0, V => (0, V)
  | n + 1, V => if 1000 ≤ V 0 1 then (0, V) else ((s_tk P n (s_tickV P V)).1 + 1, (s_tk P n (s_tickV P V)).2)
theorem tk_ok {P : m_V} (hw : wfP P) : ∀ (n : Nat) (V : m_V), okS P V → okS P (s_tk P n V).2 := by
  intro n
  induction n with
  | zero => intro V h; exact h
  | succ n ih =>
    intro V h
    unfold s_tk
    split
    · exact h
    · exact ih _ (tickV_ok hw h)
theorem us8 (x : Int32) : ∃ m, m < 2 ^ 24 ∧ us x 8 = nI m := by
  have h1 := pk_ushr x 8 8 (by decide)
  refine ⟨x.toBitVec.toNat / 2 ^ 8, ?_, ?_⟩
  · have := x.toBitVec.isLt
    omega
  · have h2 : x.toBitVec.toNat / 2 ^ 8 < 2 ^ 32 := by have := x.toBitVec.isLt; omega
    have h3 := pk_tn h2
    apply Int32.toBitVec_inj.mp
    apply BitVec.eq_of_toNat_eq
    rw [h3]
    exact h1
def s_lot (x c : Int32) : Int32 := if c < 1 then 0 else us x 8 - us x 8 / c * c
theorem lot_in (x : Int32) {n : Nat} (h0 : 0 < n) (hn : n < 2 ^ 31) : ∃ q, q < n ∧ s_lot x (nI n) = nI q := by
  obtain ⟨m, hm, e⟩ := us8 x
  refine ⟨m % n, Nat.mod_lt _ h0, ?_⟩
  have c : ¬ nI n < 1 := by
    rw [show (1 : Int32) = nI 1 from rfl, nI_ltI hn (by omega)]
    omega
  rw [s_lot, if_neg c, e, pk_rem (by omega) h0 hn]
def s_stir (x : Int32) : Int32 := x * 1103515245 + 12345
def s_ch (P : m_V) (lot : Int32) : Int32 := if lot < 2 then P 1 4 else if lot = 2 then P 1 1 else 0
def s_dx (P : m_V) (x : Int32) : Int32 := if 0 < s_ch P (s_lot (s_stir x) 4) then s_stir (s_stir x) else s_stir x
def s_dV (P V : m_V) (x : Int32) : m_V := if 0 < s_ch P (s_lot (s_stir x) 4) then s_lotV P V (s_lot (s_stir x) 4) (s_lot (s_stir (s_stir x)) (s_ch P (s_lot (s_stir x) 4))).toNatClampNeg else V
/-- n ticks by draws -/
def s_dr (P : m_V) : Nat → Int32 → m_V → Nat × m_V
  | 0, _, V => (0, V)
  | n + 1, x, V => if 1000 ≤ V 0 1 then (0, V) else ((s_dr P n (s_dx P x) (s_tickV P (s_dV P V x))).1 + 1, (s_dr P n (s_dx P x) (s_tickV P (s_dV P V x))).2)
theorem dV_ok {P V : m_V} (ho : okS P V) (x : Int32) : okS P (s_dV P V x) := by
  unfold s_dV
  split
  · exact lotV_ok ho _ _
  · exact ho
theorem dr_ok {P : m_V} (hw : wfP P) : ∀ (n : Nat) (x : Int32) (V : m_V), okS P V → okS P (s_dr P n x V).2 := by
  intro n
  induction n with
  | zero => intro x V h; exact h
  | succ n ih =>
    intro x V h
    unfold s_dr
    split
    · exact h
    · exact ih _ _ (tickV_ok hw (dV_ok h x))
