/-! what is so stays well formed -/
section WF
variable {P V : m_V}
theorem lowB.or {x y : Int32} {n : Nat} (h : lowB x n) (h2 : lowB y n) : lowB (x ||| y) n := fun i h1 hi => by rw [b_or, h i h1 hi, h2 i h1 hi]; rfl
theorem lowB.and {x y : Int32} {n : Nat} (h : lowB x n) : lowB (x &&& y) n := fun i h1 hi => by rw [b_and, h i h1 hi]; rfl
theorem lowB.xor {x y : Int32} {n : Nat} (h : lowB x n) (h2 : lowB y n) : lowB (x ^^^ y) n := fun i h1 hi => by rw [b_xor, h i h1 hi, h2 i h1 hi]; rfl
theorem lowB.zero {n : Nat} : lowB 0 n := fun i _ _ => b_0 i
theorem lowB.bit {k n : Nat} (hk : k < n) (hn : n ≤ 32) : lowB (1 <<< (nI k &&& 31)) n := fun i h1 hi => by rw [b_bit (by omega) hi]; exact decide_eq_false (by omega)
theorem lowB.bo {p : Nat → Bool} {n m : Nat} (hm : m ≤ n) (hn : n ≤ 32) : lowB (bo p m) n := fun i h1 hi => by rw [b_bo p m (by omega) i hi]; simp; omega
theorem b_lor (p : Nat → Bool) (a : Int32) : ∀ n, n ≤ 32 → ∀ i, i < 32 → bt (lo (fun k a => if p k = true then a ||| (1 <<< (nI k &&& 31)) else a) n a) i = (bt a i || (decide (i < n) && p i)) := by
  intro n
  induction n with
  | zero => intro _ i hi; simp [lo]
  | succ n ih =>
    intro hn i hi
    rw [lo]
    by_cases h : p n = true
    · rw [if_pos h, b_or, ih (by omega) i hi, b_bit (by omega) hi]
      by_cases e : i = n
      · subst e; simp [h]
      · by_cases e2 : i < n
        · have : i < n + 1 := by omega
          simp [e, e2, this]
        · have : ¬ i < n + 1 := by omega
          simp [e, e2, this]
    · rw [if_neg h, ih (by omega) i hi]
      by_cases e : i = n
      · subst e; simp [h]
      · by_cases e2 : i < n
        · have : i < n + 1 := by omega
          simp [e2, this]
        · have : ¬ i < n + 1 := by omega
          simp [e2, this]
theorem wfN.row (h : wfN P V) {j k : Nat} {x : Int32} (hj : (3 ≤ j ∧ ¬ j = 4) ∨ (j = 0 ∧ (k = 1 ∨ k = 2))) : wfN P (u2 V j k x) := by
  obtain ⟨⟨a1, a2, a3, a4, a5, a6⟩, b, d⟩ := h
  refine ⟨⟨?_, ?_, ?_, fun i hi => ?_, ?_, ?_⟩, fun r hr => ?_, fun t ht => ?_⟩
  · rw [u2_ne (by omega)]; exact a1
  · rw [u2_ne (by omega)]; exact a2
  · rw [u2_ne (by omega)]; exact a3
  · rw [u2_ne (by omega), u2_ne (by omega)]; exact a4 i hi
  · rw [u2_ne (by omega)]; exact a5
  · rw [u2_ne (by omega)]; exact a6
  · rw [u2_ne (by omega), u2_ne (by omega)]; exact b r hr
  · rw [u2_ne (by omega)]; exact d t ht
theorem wfN.u4 (h : wfN P V) {t : Nat} {c : Int32} (hc : c = -1 ∨ ∃ d, c = nI d ∧ d < ct P 0) : wfN P (u2 V 4 t c) := by
  obtain ⟨a, b, d⟩ := h
  refine ⟨a, b, fun u hu => ?_⟩
  by_cases e : u = t
  · subst e; rw [u2_eq]; exact hc
  · rw [u2_ne (by omega)]; exact d u hu
theorem wfN.how (h : wfN P V) {r : Nat} {x : Int32} (h1 : x = 1 → ¬ P 12 r = 0) (h3 : ¬ x = 3) : wfN P (u2 V 1 r x) := by
  obtain ⟨a, b, d⟩ := h
  refine ⟨a, fun q hq => ?_, d⟩
  by_cases e : q = r
  · subst e
    rw [u2_eq, u2_ne (by omega)]
    exact ⟨h1, fun e => absurd e h3⟩
  · rw [u2_ne (by omega), u2_ne (by omega)]; exact b q hq
theorem wfN.cr (h : wfN P V) {x : Int32} (hx : lowB x (ct P 6)) : wfN P (u2 V 0 6 x) := by
  obtain ⟨⟨a1, a2, a3, a4, a5, a6⟩, b, d⟩ := h
  exact ⟨⟨a1, a2, a3, a4, hx, a6⟩, b, d⟩
theorem wfN.wt (h : wfN P V) {x : Int32} (hx : lowB x (ct P 6)) : wfN P (u2 V 0 7 x) := by
  obtain ⟨⟨a1, a2, a3, a4, a5, a6⟩, b, d⟩ := h
  exact ⟨⟨a1, a2, a3, a4, a5, hx⟩, b, d⟩
theorem wfN.rv (h : wfN P V) {x : Int32} (hx : lowB x (ct P 1)) : wfN P (u2 V 0 3 x) := by
  obtain ⟨⟨a1, a2, a3, a4, a5, a6⟩, b, d⟩ := h
  exact ⟨⟨hx, a2, a3, a4, a5, a6⟩, b, d⟩
/-- where a train goes -/
def isGo (P : m_V) (g : Int32) : Prop := g = -1 ∨ g = -2 ∨ ∃ c, g = nI c ∧ c < ct P 0
theorem leads_in (wL : wfL P) {k : Nat} (hk : k < ct P 2) (f wy : Int32) : p_leadsTo P k f wy = -1 ∨ ∃ c, p_leadsTo P k f wy = nI c ∧ c < ct P 0 := by
  obtain ⟨⟨a, ea, ha⟩, ⟨b, eb, hb⟩, -⟩ := wL.t k hk
  unfold p_leadsTo
  by_cases c : (if wy = 0 then P 5 k else P 6 k) = f
  · rw [if_pos c]
    by_cases c2 : wy = 0
    · rw [if_pos c2]; exact Or.inr ⟨b, eb, hb⟩
    · rw [if_neg c2]; exact Or.inr ⟨a, ea, ha⟩
  · rw [if_neg c]; exact Or.inl rfl
theorem gbtL_in (wL : wfL P) (t : Nat) : ∀ (m k : Nat) (w : Int32), k + m = ct P 2 → isGo P w → isGo P (s_gbtL P V t k m w) := by
  intro m
  induction m with
  | zero => intro k w _ h; exact h
  | succ m ih =>
    intro k w hk h
    rw [s_gbtL]
    by_cases c : p_leadsTo P k (V 4 t) (P 20 t) = -1
    · rw [if_pos c]; exact ih _ _ (by omega) h
    · rw [if_neg c]
      by_cases c2 : s_leadsNow P V k = true
      · rw [if_pos c2]
        rcases leads_in wL (k := k) (by omega) (V 4 t) (P 20 t) with e | e
        · exact absurd e c
        · exact Or.inr (Or.inr e)
      · rw [if_neg c2]; exact ih _ _ (by omega) (Or.inr (Or.inl rfl))
theorem goal_in (wL : wfL P) (hN : wfN P V) (t : Nat) : isGo P (s_goal P V t) := by
  have hb4 := wL.ok.c4.2
  unfold s_goal
  by_cases c : p_signalAt P (V 4 t) (P 20 t) = -1
  · rw [if_pos c]; exact gbtL_in wL t _ _ _ (by omega) (Or.inl rfl)
  · rw [if_neg c, s_gbs]
    by_cases c2 : s_setRouteOf P V (p_signalAt P (V 4 t) (P 20 t)) = -1
    · rw [if_pos c2]; exact Or.inr (Or.inl rfl)
    · rw [if_neg c2]
      rcases ff_cases (fun r => decide (P 11 r = p_signalAt P (V 4 t) (P 20 t) ∧ V 1 r = 1)) (ct P 4) 0 with e | ⟨r, -, h2, h3, h4⟩
      · exact absurd e c2
      · have h3 : s_setRouteOf P V (p_signalAt P (V 4 t) (P 20 t)) = nI r := h3
        rw [decide_eq_true_eq] at h4
        obtain ⟨-, ⟨m, em, hm, hc, -⟩, -⟩ := wL.r r (by omega)
        have h12 := (hN.2.1 r (by omega)).1 h4.2
        have hm0 : 0 < m := by
          rcases Nat.eq_zero_or_pos m with z | z
          · rw [em, z] at h12; exact absurd nI_0 h12
          · exact z
        rw [h3, nI_clamp (by omega)]
        exact Or.inr (Or.inr (hc 0 hm0))
theorem wfN.goalV (h : wfN P V) (t : Nat) : wfN P (s_goalV P V t) := by
  unfold s_goalV
  by_cases c : p_signalAt P (V 4 t) (P 20 t) = -1
  · rw [if_pos c]; exact h
  · rw [if_neg c, s_gbsV]
    by_cases c2 : s_setRouteOf P V (p_signalAt P (V 4 t) (P 20 t)) = -1
    · rw [if_pos c2]; exact h
    · rw [if_neg c2]
      exact (h.how (by intro e; exact absurd e (by decide)) (by decide)).row (Or.inl ⟨by omega, by omega⟩)
theorem cr_low (w : okP P) (h : wfN P V) {t : Nat} (ht : t < ct P 6) (c : Int32) : lowB (s_cr P V t c) (ct P 6) := by
  have h6 := w.c6.2
  intro i h1 hi
  have e : s_cr P V t c = lo (fun k a => if (decide (V 4 k = c)) = true then a ||| (1 <<< (nI k &&& 31)) else a) (ct P 6) (V 0 6 ||| (1 <<< (nI t &&& 31))) := lo_congr _ (fun k x _ => by simp only [decide_eq_true_eq])
  rw [e, b_lor _ _ _ (by omega) i hi, b_or, h.1.2.2.2.2.1 i h1 hi, b_bit (by omega) hi]
  have e1 : ¬ i = t := by omega
  have e2 : ¬ i < ct P 6 := by omega
  simp [e1, e2]
theorem wfN.crashV (w : okP P) (h : wfN P V) {t : Nat} (ht : t < ct P 6) (c : Int32) : wfN P (s_crashV P V t c) := by
  unfold s_crashV
  exact ((h.row (Or.inr ⟨rfl, Or.inr rfl⟩)).cr (cr_low w h ht c)).wt h.1.2.2.2.2.2.and
theorem wfN.enterV (w : okP P) (h : wfN P V) {t : Nat} (ht : t < ct P 6) {c : Int32} (hc : c = -1 ∨ ∃ d, c = nI d ∧ d < ct P 0) : wfN P (s_enterV P V t c) := by
  unfold s_enterV
  refine lo_inv ?_ _ (fun r W _ hW => ?_)
  · unfold s_ent1
    have h2 : wfN P (u2 (u2 V 4 t c) 5 t 0) := (h.u4 hc).row (Or.inl ⟨by omega, by omega⟩)
    by_cases q : (if c = -1 then (-1 : Int32) else s_leastTrainIn P V c (nI t)) = -1
    · rw [if_pos q]; exact h2
    · rw [if_neg q]; exact h2.crashV w ht c
  · split
    · exact hW.how (by intro e; exact absurd e (by decide)) (by decide)
    · exact hW
theorem wfN.runV (wL : wfL P) (h : wfN P V) {t : Nat} (ht : t < ct P 6) : wfN P (s_runV P V t) := by
  have w := wL.ok
  have h1 : wfN P (u2 V 5 t (V 5 t + 1)) := h.row (Or.inl ⟨by omega, by omega⟩)
  unfold s_runV
  split
  · unfold s_moveV
    have h2 := h1.goalV t
    split
    · exact (h2.wt (h2.1.2.2.2.2.2.or (lowB.bit ht (by have := w.c6.2; omega)))).row (Or.inl ⟨by omega, by omega⟩)
    · rename_i c
      refine h2.enterV w ht ?_
      rcases goal_in wL h1 t with e | e | e
      · exact Or.inl e
      · exact absurd e c
      · exact Or.inr e
  · exact h1
/-- one train's turn in a tick -/
def s_turn (P : m_V) (t : Nat) (W : m_V) : m_V := if W 4 t = -1 ∨ ¬ (W 0 6 >>> (nI t &&& 31)) &&& 1 = 0 then W else s_runV P W t
theorem wfN.turn (wL : wfL P) (h : wfN P V) {t : Nat} (ht : t < ct P 6) : wfN P (s_turn P t V) := by
  unfold s_turn
  split
  · exact h
  · exact h.runV wL ht
/-- one route's turn -/
def s_down (r : Nat) (W : m_V) : m_V := if W 1 r = 3 then (if 0 < W 2 r - 1 then u2 W 2 r (W 2 r - 1) else u2 (u2 W 2 r (W 2 r - 1)) 1 r 0) else W
theorem wfN.down (h : wfN P V) {r : Nat} (hr : r < ct P 4) : wfN P (s_down r V) := by
  obtain ⟨a, b, d⟩ := h
  unfold s_down
  by_cases c : V 1 r = 3
  · obtain ⟨n, en, h1, h2⟩ := (b r hr).2 c
    have e1 : (nI n - 1 : Int32) = nI (n - 1) := ix_sl h1
    rw [if_pos c]
    by_cases c2 : 0 < V 2 r - 1
    · rw [if_pos c2]
      refine ⟨a, fun q hq => ?_, d⟩
      by_cases e : q = r
      · subst e
        rw [u2_ne (by omega), u2_eq]
        refine ⟨(b q hq).1, fun _ => ⟨n - 1, by rw [en, e1], ?_, by omega⟩⟩
        rw [en, e1, show (0 : Int32) = nI 0 from rfl, nI_ltI (by omega) (by omega)] at c2
        omega
      · rw [u2_ne (by omega), u2_ne (by omega)]; exact b q hq
    · rw [if_neg c2]
      refine ⟨a, fun q hq => ?_, d⟩
      by_cases e : q = r
      · subst e
        rw [u2_eq]
        exact ⟨fun e => absurd e (by decide), fun e => absurd e (by decide)⟩
      · rw [u2_ne (by omega), u2_ne (by omega), u2_ne (by omega), u2_ne (by omega)]; exact b q hq
  · rw [if_neg c]; exact ⟨a, b, d⟩
theorem tick_eq (P V : m_V) : s_tickV P V = u2 (lo s_down (ct P 4) (lo (s_turn P) (ct P 6) (u2 V 0 7 0))) 0 1 (lo s_down (ct P 4) (lo (s_turn P) (ct P 6) (u2 V 0 7 0)) 0 1 + 1) := rfl
theorem wfN.tick (wL : wfL P) (h : wfN P V) : wfN P (s_tickV P V) := by
  rw [tick_eq]
  refine wfN.row ?_ (Or.inr ⟨rfl, Or.inl rfl⟩)
  refine lo_inv ?_ _ (fun r W hr hW => hW.down hr)
  exact lo_inv (h.wt lowB.zero) _ (fun t W ht hW => hW.turn wL ht)
end WF
