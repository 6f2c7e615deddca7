/-! ticks, drawn, undo: both -/
section TI
variable {P V W : m_V} {X : X_} {h : Nat}
/-- the tick, and how long each has waited, stay -/
def k16 (V W : m_V) : Prop := W 0 1 = V 0 1 ∧ ∀ u, W 6 u = V 6 u
theorem k16.refl : k16 V V := ⟨rfl, fun _ => rfl⟩
theorem k16.trans {U : m_V} (h : k16 V W) (h2 : k16 W U) : k16 V U := ⟨h2.1.trans h.1, fun u => (h2.2 u).trans (h.2 u)⟩
theorem k16.u (h : k16 V W) {j k : Nat} {x : Int32} (hj : ¬ j = 6 ∧ ¬ (j = 0 ∧ k = 1)) : k16 V (u2 W j k x) := ⟨by rw [u2_ne (by omega)]; exact h.1, fun u => by rw [u2_ne (by omega)]; exact h.2 u⟩
theorem k16.lo {f : Nat → m_V → m_V} (hf : ∀ i W, k16 W (f i W)) : ∀ n, k16 V (lo f n V) := by
  intro n
  induction n with
  | zero => exact k16.refl
  | succ n ih => exact ih.trans (hf n _)
theorem k16.goalV (t : Nat) : k16 V (s_goalV P V t) := by
  unfold s_goalV
  split
  · exact k16.refl
  · unfold s_gbsV
    split
    · exact k16.refl
    · exact (k16.refl.u (by omega)).u (by omega)
theorem k16.enterV (t : Nat) (c : Int32) : k16 V (s_enterV P V t c) := by
  unfold s_enterV
  refine k16.trans ?_ (k16.lo (fun r W => ?_) _)
  · unfold s_ent1
    by_cases q : (if c = -1 then (-1 : Int32) else s_leastTrainIn P V c (nI t)) = -1
    · rw [if_pos q]; exact (k16.refl.u (by omega)).u (by omega)
    · rw [if_neg q]
      unfold s_crashV
      exact (((((k16.refl.u (by omega)).u (by omega)).u (by omega)).u (by omega)).u (by omega))
  · split
    · exact k16.refl.u (by omega)
    · exact k16.refl
/-- one train's turn: it alone may have waited one tick more -/
theorem turn_6 (t : Nat) : s_turn P t V 0 1 = V 0 1 ∧ (∀ u, ¬ u = t → s_turn P t V 6 u = V 6 u) ∧ (s_turn P t V 6 t = V 6 t ∨ s_turn P t V 6 t = V 6 t + 1) := by
  have of : ∀ {W : m_V}, k16 V W → W 0 1 = V 0 1 ∧ (∀ u, ¬ u = t → W 6 u = V 6 u) ∧ (W 6 t = V 6 t ∨ W 6 t = V 6 t + 1) := fun h => ⟨h.1, fun u _ => h.2 u, Or.inl (h.2 t)⟩
  unfold s_turn
  split
  · exact of k16.refl
  · unfold s_runV
    have h1 : k16 V (u2 V 5 t (V 5 t + 1)) := k16.refl.u (by omega)
    split
    · unfold s_moveV
      have h2 := h1.trans (k16.goalV (P := P) t)
      split
      · refine ⟨by rw [u2_ne (by omega), u2_ne (by omega)]; exact h2.1, fun u hu => by rw [u2_ne (by omega), u2_ne (by omega)]; exact h2.2 u, Or.inr ?_⟩
        rw [u2_eq, h2.2 t]
      · exact of (h2.trans (k16.enterV t _))
    · exact of h1
theorem turns_6 (V : m_V) : ∀ n, lo (s_turn P) n V 0 1 = V 0 1 ∧ (∀ u, n ≤ u → lo (s_turn P) n V 6 u = V 6 u) ∧ ∀ u, lo (s_turn P) n V 6 u = V 6 u ∨ lo (s_turn P) n V 6 u = V 6 u + 1 := by
  intro n
  induction n with
  | zero => exact ⟨rfl, fun _ _ => rfl, fun _ => Or.inl rfl⟩
  | succ n ih =>
    obtain ⟨a1, a2, a3⟩ := ih
    obtain ⟨b1, b2, b3⟩ := turn_6 (P := P) (V := lo (s_turn P) n V) n
    refine ⟨b1.trans a1, fun u hu => (b2 u (by omega)).trans (a2 u (by omega)), fun u => ?_⟩
    by_cases c : u = n
    · subst c
      have e := a2 u (Nat.le_refl _)
      rw [e] at b3
      exact b3
    · rw [show lo (s_turn P) (n + 1) V 6 u = lo (s_turn P) n V 6 u from b2 u c]
      exact a3 u
theorem down_k (r : Nat) : k16 V (s_down r V) := by
  unfold s_down
  split
  · split
    · exact k16.refl.u (by omega)
    · exact (k16.refl.u (by omega)).u (by omega)
  · exact k16.refl
theorem wfM.tick (h : wfM P V) (hlt : ¬ 1000 ≤ V 0 1) : wfM P (s_tickV P V) := by
  obtain ⟨n, e, hn, ht⟩ := h
  have hn2 : n + 1 ≤ 1000 := by
    rw [e, cL_le (by decide) (by omega)] at hlt
    omega
  obtain ⟨a1, -, a3⟩ := turns_6 (P := P) (u2 V 0 7 0) (ct P 6)
  have hk := k16.lo (V := lo (s_turn P) (ct P 6) (u2 V 0 7 0)) (fun r W => down_k r) (ct P 4)
  rw [tick_eq]
  refine ⟨n + 1, ?_, hn2, fun t q => ?_⟩
  · rw [u2_eq, hk.1, a1, u2_ne (by omega), e, nI_1]
  · rw [u2_ne (by omega), hk.2 t]
    obtain ⟨m, em, hm⟩ := ht t q
    rcases a3 t with z | z
    · exact ⟨m, by rw [z, u2_ne (by omega)]; exact em, by omega⟩
    · exact ⟨m + 1, by rw [z, u2_ne (by omega), em, nI_1], by omega⟩
theorem wfM.tk : ∀ (n : Nat) (V : m_V), wfM P V → wfM P (s_tk P n V).2 := by
  intro n
  induction n with
  | zero => intro V h; exact h
  | succ n ih =>
    intro V h
    rw [s_tk]
    by_cases c : 1000 ≤ V 0 1
    · rw [if_pos c]; exact h
    · rw [if_neg c]; exact ih _ (h.tick c)
theorem k16.setV (r : Nat) : k16 V (s_setV P V r) := by
  unfold s_setV
  split
  · exact k16.refl.u (by omega)
  · exact k16.refl
theorem k16.backV (r : Nat) : k16 V (s_backV P V r) := by
  unfold s_backV
  split
  · split
    · exact (k16.refl.u (by omega)).u (by omega)
    · exact k16.refl.u (by omega)
  · exact k16.refl
theorem k16.throwV (r : Nat) : k16 V (s_throwV P V r) := by
  unfold s_throwV
  split
  · exact k16.refl.u (by omega)
  · exact k16.refl
theorem k16.dV (x : Int32) : k16 V (s_dV P V x) := by
  unfold s_dV
  split
  · unfold s_lotV
    split
    · exact k16.throwV _
    · split
      · exact k16.backV _
      · exact k16.setV _
  · exact k16.refl
theorem wfM.dr : ∀ (n : Nat) (x : Int32) (V : m_V), wfM P V → wfM P (s_dr P n x V).2 := by
  intro n
  induction n with
  | zero => intro x V h; exact h
  | succ n ih =>
    intro x V h
    rw [s_dr]
    by_cases c : 1000 ≤ V 0 1
    · rw [if_pos c]; exact h
    · rw [if_neg c]
      have k := k16.dV (P := P) (V := V) x
      exact ih _ _ ((h.of k.1 k.2).tick (by rw [k.1]; exact c))
/-- the component notes, does, and may keep -/
theorem k_do {V' : m_V} (H : I_hn X h) {f : RM Int32} {v : Int32} (hf : ∀ X1, bP X1 4 = bP X 4 → bV X1 47 = bV X 47 → f X1 = some (v, bk X1 47 7 V' (bVJ X1 47))) :
    ∃ X1 X2 X3, fX3_note X = some ((), X1) ∧ f X1 = some (v, X2) ∧ fX3_keepNoted X2 = some ((), X3) ∧ chg X X2 V' ∧ hsame X X2 h ∧ chg X X3 V' ∧ hpush X X3 h := by
  obtain ⟨X1, n1, n2, n3, n4, n5⟩ := k_note H
  have eP : bP X1 4 = bP X 4 := bB_same (fun a _ _ => n2 a (by omega))
  have eV : bV X1 47 = bV X 47 := bB_same (fun a _ _ => n2 a (by omega))
  have e2 := hf X1 eP eV
  have j2 : (bk X1 47 7 V' (bVJ X1 47)).2.1 = X.2.1 := by
    rw [← n3]
    funext a
    by_cases q : 47 ≤ a ∧ a < 47 + 7
    · obtain ⟨j, rfl⟩ : ∃ j, a = 47 + j := ⟨a - 47, by omega⟩
      rw [bk_inJ (by omega)]
      funext i
      exact if_pos (show j < 7 by omega)
    · exact bk_rowJ q
  have r2 : ∀ a, ¬ (47 ≤ a ∧ a < 54) → (bk X1 47 7 V' (bVJ X1 47)).1 a = X1.1 a := fun a ha => bk_row (by omega)
  have v2 : eqV V' (bV (bk X1 47 7 V' (bVJ X1 47)) 47) := by
    show eqV _ (bB 7 _ _)
    rw [bB_bk]
    exact eqV.trim
  have b2' : ∀ g, g < 9 → bV (bk X1 47 7 V' (bVJ X1 47)) (63 + 7 * g) = bV X1 (63 + 7 * g) := fun g _ => bB_bk' (by omega)
  have g2' : (bk X1 47 7 V' (bVJ X1 47)).2.2 = X.2.2 := n4.1
  generalize bk X1 47 7 V' (bVJ X1 47) = X2 at e2 j2 r2 v2 b2' g2'
  have hb : ∀ g, g < 9 → ¬ g = X.2.2 h → bV X2 (63 + 7 * g) = bV X (63 + 7 * g) := fun g hg hne => by rw [b2' g hg]; exact n4.2.2 g hg hne
  have hl : eqV (bV X 47) (bV X2 (63 + 7 * X.2.2 h)) := by rw [b2' _ (H.2.2.2.1 h (by have := H.1; omega))]; exact n5
  have h61 : X2.1 61 1 = nI h := by rw [r2 61 (by omega), n4.2.1]; exact H.2.1
  obtain ⟨X3, m1, m2, m3, m4, m5⟩ := k_keep (X := X2) H.1 h61 (by rw [g2']; exact H.2.2.2.1)
  have e47 : bV X3 47 = bV X2 47 := bB_same (fun a _ _ => m2 a (by omega))
  have eg : ∀ g, g < 9 → bV X3 (63 + 7 * g) = bV X2 (63 + 7 * g) := fun g hg => bB_same (fun a _ _ => m2 a (by omega))
  refine ⟨X1, X2, X3, n1, e2, m1, ⟨fun a h1 h2 => ?_, j2, v2⟩, ⟨g2', by rw [h61]; exact H.2.1.symm, hb⟩, ⟨fun a h1 h2 => ?_, by rw [m3, j2], by rw [e47]; exact v2⟩, ⟨by rw [m5, g2'], m4, fun g hg hne => by rw [eg g hg]; exact hb g hg hne, by rw [eg _ (H.2.2.2.1 h (by have := H.1; omega))]; exact hl⟩⟩
  · rw [r2 a h1, n2 a (by omega)]
  · rw [m2 a (by omega), r2 a h1, n2 a (by omega)]
theorem tk_full {n : Nat} (hn : 0 < n) (V : m_V) : (1000 ≤ V 0 1 → s_tk P n V = (0, V)) ∧ (¬ 1000 ≤ V 0 1 → 0 < (s_tk P n V).1) := by
  obtain ⟨m, rfl⟩ : ∃ m, n = m + 1 := ⟨n - 1, by omega⟩
  rw [s_tk]
  refine ⟨fun c => by rw [if_pos c], fun c => ?_⟩
  rw [if_neg c]
  exact Nat.succ_pos _
theorem tk_le : ∀ (n : Nat) (V : m_V), (s_tk P n V).1 ≤ n := by
  intro n
  induction n with
  | zero => intro V; exact Nat.le_refl _
  | succ n ih =>
    intro V
    rw [s_tk]
    split
    · exact Nat.zero_le _
    · exact Nat.succ_le_succ (ih _)
theorem dr_full {n : Nat} (hn : 0 < n) (x : Int32) (V : m_V) : (1000 ≤ V 0 1 → s_dr P n x V = (0, V)) ∧ (¬ 1000 ≤ V 0 1 → 0 < (s_dr P n x V).1) := by
  obtain ⟨m, rfl⟩ : ∃ m, n = m + 1 := ⟨n - 1, by omega⟩
  rw [s_dr]
  refine ⟨fun c => by rw [if_pos c], fun c => ?_⟩
  rw [if_neg c]
  exact Nat.succ_pos _
theorem dr_le : ∀ (n : Nat) (x : Int32) (V : m_V), (s_dr P n x V).1 ≤ n := by
  intro n
  induction n with
  | zero => intro x V; exact Nat.le_refl _
  | succ n ih =>
    intro x V
    rw [s_dr]
    split
    · exact Nat.zero_le _
    · exact Nat.succ_le_succ (ih _ _)
/-- a number from 1 to 60 -/
theorem in60 {a : Int32} {N : Nat} (hN : N < 2 ^ 31) (h : 1 ≤ a ∧ a ≤ nI N) : ∃ n, 0 < n ∧ n ≤ N ∧ a = nI n := by
  have h0 : ¬ a < 0 := by
    intro c
    have h1 := h.1
    rw [i32_le] at h1
    rw [i32_lt] at c
    have e1 : (1 : Int32).toInt = 1 := rfl
    have e0 : (0 : Int32).toInt = 0 := rfl
    omega
  obtain ⟨k, hk, rfl⟩ := nI_of h0
  refine ⟨k, ?_, (nI_leI hk hN).mp h.2, rfl⟩
  have h1 := h.1
  rw [cL_le (by decide) hk] at h1
  exact h1
theorem lt_nle {a b : Int32} : a < b ↔ ¬ b ≤ a := by rw [i32_le, i32_lt]; omega
theorem sim_ticks (a : Int32) : Sim (fX11_ticks a) (fX12_ticks a) := fun X hX => by
  have w := hX.w
  have ok := w.ok
  obtain ⟨h, H⟩ := hX.hn
  unfold fX11_ticks fX12_ticks
  by_cases c : 1 ≤ a ∧ a ≤ 60
  · obtain ⟨n, h0, h60, rfl⟩ := in60 (N := 60) (by decide) c
    obtain ⟨X1, X2, X3, n1, n2, n3, n4, n5, n6, n7⟩ := k_do (f := fX8_passTicks 47 (nI n)) (v := nI (s_tk (bP X 4) n (bV X 47)).1) (V' := (s_tk (bP X 4) n (bV X 47)).2) H (fun X1 e1 e2 => by
      unfold fX8_passTicks
      rw [gd_t, nI_clamp (by omega), e1, e2]
      rw [nI_clamp (by omega), e1, e2]
      exact ⟨rfl, wfP_of w.l, okS_of w.l w.v, h60⟩)
    have hle := tk_le (P := bP X 4) n (bV X 47)
    rw [it_f (show ¬ nI n < 1 by rw [lt_nle]; exact fun e => e c.1), it_t c.2, ca_s n1, ca_s n2]
    obtain ⟨m, em, hm, -⟩ := w.m
    have et : ∀ Y : X_, Y.1 220 = X.1 220 → Y.1 220 226 = nI m := fun Y e => by rw [e, w.s.1.tick]; exact em
    by_cases q : 1000 ≤ bV X 47 0 1
    · have hm0 : m = 1000 := by
        rw [em, cL_le (by decide) (by omega)] at q
        omega
      have e0 := (tk_full (P := bP X 4) h0 (bV X 47)).1 q
      rw [e0] at n2 n4 n6 ⊢
      have e220 : (sI X2 218 0 0).1 220 = X.1 220 := by rw [sI_row (by decide), n4.1 220 (by omega) (by omega)]
      refine ⟨0, X2, sI X2 218 0 0, ?_, ?_, ?_⟩
      · rw [it_t (show nI (0, bV X 47).1 ≤ 0 from (by decide : nI 0 ≤ 0))]; rfl
      · rw [pI_e, ca_s (e_isIn _ _ _), it_f (bz_t c), rA_l (by decide) (by decide), et _ e220, hm0, it_t (show nI 1000 = 1000 from rfl)]
        rfl
      · exact act_not hX H n4 n5
    · have hp := (tk_full (P := bP X 4) h0 (bV X 47)).2 q
      have hm1 : m < 1000 := by
        rw [em, cL_le (by decide) (by omega)] at q
        omega
      obtain ⟨Y, s1, y1, y2, y3, y4, y5, y6, y7, y8⟩ := e_st (v := 0) H n6
      obtain ⟨S', p1, p2, p3, p4⟩ := e_goesOn (X := Y) w.l n h60 (X.1 220) (bV X 47) w.r w.v w.s
      rw [← y2, rowS_self] at p1
      have e220 : (sI X3 218 0 0).1 220 = X.1 220 := by rw [sI_row (by decide), n6.1 220 (by omega) (by omega)]
      refine ⟨nI (s_tk (bP X 4) n (bV X 47)).1, X3, rowS Y S', ?_, ?_, ?_⟩
      · rw [it_f (nI_nle hp (by omega)), ca_s n3]; rfl
      · rw [pI_e, ca_s (e_isIn _ _ _), it_f (bz_t c), rA_l (by decide) (by decide), et _ e220, it_f (show ¬ nI m = 1000 from fun e => by have := (nI_eq (b := 1000) (by omega) (by decide)).mp e; omega), ca_s s1, ca_s p1]
        rfl
      · exact act_end hX H n6 n7 p4 (wfM.tk n _ w.m) y1 y3 y4 y5 y6 y7 y8 p2 p3
  · refine ⟨-1, X, sI X 218 0 0, ?_, ?_, hX.thrown⟩
    · by_cases c1 : a < 1
      · rw [it_t c1]; rfl
      · rw [it_f c1, it_f (fun e => c ⟨by rw [lt_nle] at c1; exact Classical.byContradiction c1, e⟩)]; rfl
    · rw [pI_e, ca_s (e_isIn _ _ _), it_t (bz_f c)]
      rfl
theorem sim_drawn (a b : Int32) : Sim (fX11_drawn a b) (fX12_drawn a b) := fun X hX => by
  have w := hX.w
  have ok := w.ok
  obtain ⟨h, H⟩ := hX.hn
  unfold fX11_drawn fX12_drawn
  by_cases c : 1 ≤ a ∧ a ≤ 60
  · obtain ⟨n, h0, h60, rfl⟩ := in60 (N := 60) (by decide) c
    obtain ⟨X1, X2, X3, n1, n2, n3, n4, n5, n6, n7⟩ := k_do (f := fX8_passDrawn 47 (nI n) b) (v := nI (s_dr (bP X 4) n b (bV X 47)).1) (V' := (s_dr (bP X 4) n b (bV X 47)).2) H (fun X1 e1 e2 => by
      unfold fX8_passDrawn
      rw [gd_t, nI_clamp (by omega), e1, e2]
      rw [nI_clamp (by omega), e1, e2]
      exact ⟨rfl, wfP_of w.l, okS_of w.l w.v, h60⟩)
    have hle := dr_le (P := bP X 4) n b (bV X 47)
    rw [it_f (show ¬ nI n < 1 by rw [lt_nle]; exact fun e => e c.1), it_t c.2, ca_s n1, ca_s n2]
    have et : ∀ Y : X_, Y.1 220 = X.1 220 → Y.1 220 226 = bV X 47 0 1 := fun Y e => by rw [e]; exact w.s.1.tick
    by_cases q : 1000 ≤ bV X 47 0 1
    · have e0 := (dr_full (P := bP X 4) h0 b (bV X 47)).1 q
      obtain ⟨z, S', p1, p2, p3, p4⟩ := e_draws (X := sI X2 218 0 0) w.l n h60 b w.r w.v w.s
      have e220 : (sI X2 218 0 0).1 220 = X.1 220 := by rw [sI_row (by decide), n4.1 220 (by omega) (by omega)]
      rw [← e220, rowS_self] at p1
      rw [e0] at n2 n4 n6 p1 p2 p4 ⊢
      refine ⟨0, X2, rowS (sI (sI X2 218 0 0) 218 37 z) S', ?_, ?_, ?_⟩
      · rw [it_t (show nI (0, bV X 47).1 ≤ 0 from (by decide : nI 0 ≤ 0))]; rfl
      · rw [pI_e, ca_s (e_isIn _ _ _), it_f (bz_t c), rA_l (by decide) (by decide), et _ e220, it_t q, ca_re]
        exact p1
      · exact act_noS hX H n4 n5 w.v w.m p2 p3 (fun a ha => by rw [rowS_ne (by omega), sI_row (by omega), sI_row (by omega)]) rowS_220 n4.2.1 rfl (fun k k1 k2 => by rw [rowS_ne (by decide), sI_ne (by omega), sI_ne (by omega), n4.1 218 (by omega) (by omega)]) (fun a a1 a2 _ => by rw [rowS_ne a2, sI_row (by omega), sI_row (by omega)]; exact n4.1 a (by omega) (by omega))
    · have hp := (dr_full (P := bP X 4) h0 b (bV X 47)).2 q
      obtain ⟨Y, s1, y1, y2, y3, y4, y5, y6, y7, y8⟩ := e_st (v := 0) H n6
      obtain ⟨z, S', p1, p2, p3, p4⟩ := e_draws (X := Y) w.l n h60 b w.r w.v w.s
      rw [← y2, rowS_self] at p1
      have e220 : (sI X3 218 0 0).1 220 = X.1 220 := by rw [sI_row (by decide), n6.1 220 (by omega) (by omega)]
      refine ⟨nI (s_dr (bP X 4) n b (bV X 47)).1, X3, rowS (sI Y 218 37 z) S', ?_, ?_, ?_⟩
      · rw [it_f (nI_nle hp (by omega)), ca_s n3]; rfl
      · rw [pI_e, ca_s (e_isIn _ _ _), it_f (bz_t c), rA_l (by decide) (by decide), et _ e220, it_f q, ca_s s1, ca_re]
        exact p1
      · exact act_done hX H n6 n7 p4 (wfM.dr n _ _ w.m) p2 p3 (fun a ha => by rw [rowS_ne (by omega), sI_row (by omega)]; exact y1 a ha) rowS_220 y3 y4 (by rw [rowS_ne (by decide), sI_row (by decide)]; exact y5) (by rw [rowS_ne (by decide), sI_ne (by decide)]; exact y6) (fun k k1 k2 k3 => by rw [rowS_ne (by decide), sI_ne (by omega)]; exact y7 k k1 k2) (fun a a1 a2 a3 _ => by rw [rowS_ne a2, sI_row (by omega)]; exact y8 a a1 a3)
  · refine ⟨-1, X, sI X 218 0 0, ?_, ?_, hX.thrown⟩
    · by_cases c1 : a < 1
      · rw [it_t c1]; rfl
      · rw [it_f c1, it_f (fun e => c ⟨by rw [lt_nle] at c1; exact Classical.byContradiction c1, e⟩)]; rfl
    · rw [pI_e, ca_s (e_isIn _ _ _), it_t (bz_f c)]
      rfl
end TI
