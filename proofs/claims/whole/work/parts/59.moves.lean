/-! a train's turn, a tick of the reference -/
section MV
variable {P V : m_V} {X : X_} {S : Nat → Int32}
theorem upS_self {k : Nat} {v : Int32} (h : S k = v) : upS S k v = S := by
  funext j
  by_cases c : j = k
  · subst c; rw [upS_eq, h]
  · rw [upS_ne c]
theorem upS_upd {k : Nat} {u v : Int32} : upS (upS S k u) k v = upS S k v := by
  funext j
  by_cases c : j = k
  · subst c; rw [upS_eq, upS_eq]
  · rw [upS_ne c, upS_ne c, upS_ne c]
theorem upS_comm {j k : Nat} {u v : Int32} (h : ¬ j = k) : upS (upS S j u) k v = upS (upS S k v) j u := by
  funext i
  by_cases c : i = k
  · subst c
    rw [upS_eq, upS_ne (fun e => h e.symm), upS_eq]
  · by_cases c2 : i = j
    · subst c2; rw [upS_ne c, upS_eq, upS_eq]
    · rw [upS_ne c, upS_ne c2, upS_ne c2, upS_ne c]
def s_crB (P V : m_V) (c : Int32) (i : Nat) (a : Int32) : Int32 := lo (fun k a => if (decide (V 4 k = c)) = true then a ||| (1 <<< (nI k &&& 31)) else a) i a
theorem cr_same (w : okP P) {t : Nat} (ht : t < ct P 6) {c : Int32} (hc : V 4 t = c) : s_cr P V t c = s_crB P V c (ct P 6) (V 0 6) := by
  have h6 := w.c6.2
  have e : s_cr P V t c = s_crB P V c (ct P 6) (V 0 6 ||| (1 <<< (nI t &&& 31))) := lo_congr _ (fun k x _ => by simp only [decide_eq_true_eq])
  rw [e]
  unfold s_crB
  refine b_ext (fun i hi => ?_)
  rw [b_lor _ _ _ (by omega) i hi, b_lor _ _ _ (by omega) i hi, b_or, b_bit (by omega) hi]
  by_cases c1 : i = t
  · subst c1; simp [ht, hc]
  · simp [c1]
/-- two met -/
theorem e_meets (w : okP P) (hL : RLa P S) (hS : RS P V S) {t d : Nat} (ht : t < ct P 6) (hd : d < 32) (hat : V 4 t = nI d) (a : Int32) : ∃ S', fX12_meets a (nI d) (rowS X S) = some ((), rowS X S') ∧ RS P (s_crashV P V t (nI d)) S' ∧ fr S S' ∧ S' 282 = S 282 &&& (s_cr P V t (nI d) ^^^ -1) := by
  have h6 := w.c6.2
  have h0 : (fun i => rowS X (upS S 281 (s_crB P V (nI d) i (V 0 6)))) 0 = rowS X S := by
    show rowS X (upS S 281 (V 0 6)) = _
    rw [upS_self hS.cr]
  have hrun : fX12_meets a (nI d) (rowS X S) = some ((), rowS X (upS (upS (upS S 281 (s_cr P V t (nI d))) 282 (S 282 &&& (s_cr P V t (nI d) ^^^ -1))) 227 (V 0 2 + 1))) := by
    unfold fX12_meets
    rw [← h0]
    refine lz1_X (n := ct P 6) (fun i => rowS X (upS S 281 (s_crB P V (nI d) i (V 0 6)))) (by omega) (fun i L hi => ?_) (fun L => ?_)
    · show (rA 220 469 6 _) (rowS X _) = _
      rw [e_rAl (by decide), upS_ne (by omega), hL.n6 w, it_e, if_neg (nI_ge hi (by omega)), ix_la, e_rA (by omega), upS_ne (by omega), hS.at hi, it_e, if_cp, nI_1]
      by_cases c : V 4 i = nI d
      · rw [if_pos c, e_rAl (by decide), upS_eq, e_wAl (by decide), upS_upd]
        have : s_crB P V (nI d) (i + 1) (V 0 6) = s_crB P V (nI d) i (V 0 6) ||| (1 <<< (nI i &&& 31)) := by
          show (if decide (V 4 i = nI d) = true then _ else _) = _
          rw [if_pos (decide_eq_true c)]
          rfl
        rw [this]
      · rw [if_neg c]
        have : s_crB P V (nI d) (i + 1) (V 0 6) = s_crB P V (nI d) i (V 0 6) := by
          show (if decide (V 4 i = nI d) = true then _ else _) = _
          rw [if_neg (by simp [c])]
          rfl
        rw [this]
    · show (rA 220 469 6 _) (rowS X _) = _
      rw [e_rAl (by decide), upS_ne (by omega), hL.n6 w, it_e, if_pos (nI_le (Nat.le_refl _) (by omega)), e_rAl (by decide), e_rAl (by decide), upS_eq, upS_ne (by omega), e_wAl (by decide), e_rAl (by decide), e_wAl (by decide), upS_ne (by omega), upS_ne (by omega), hS.met, cr_same w ht hat]
      rfl
  refine ⟨_, hrun, ?_, ((fr.refl.u (by omega) (by omega)).u (by omega) (by omega)).u (by omega) (by omega), by rw [upS_ne (by omega), upS_eq]⟩
  rw [upS_comm (by omega)]
  unfold s_crashV
  exact ((hS.crash w _ _).s7 w _).w7 _
/-- the routes that a train has left -/
def f_c (P W0 : m_V) (t : Nat) (c : Int32) (r : Nat) : Prop := W0 1 r = 2 ∧ W0 3 r = nI t ∧ (c = -1 ∨ (P 14 r >>> (c &&& 31)) &&& 1 = 0)
def f_W (P : m_V) (t : Nat) (c : Int32) (W0 : m_V) (i : Nat) : m_V := lo (fun r (W : m_V) => if W 1 r = 2 ∧ W 3 r = nI t ∧ (c = -1 ∨ (P 14 r >>> (c &&& 31)) &&& 1 = 0) then u2 W 1 r 0 else W) i W0
def f_S (P : m_V) (t : Nat) (c : Int32) (W0 : m_V) (S : Nat → Int32) : Nat → Nat → Int32
  | 0 => S
  | i + 1 => if W0 1 i = 2 ∧ W0 3 i = nI t ∧ (c = -1 ∨ (P 14 i >>> (c &&& 31)) &&& 1 = 0) then upS (upS (f_S P t c W0 S i) (229 + i) 0) (249 + i) 0 else f_S P t c W0 S i
theorem f_inv (w : okP P) {W0 : m_V} (hS : RS P W0 S) (t : Nat) (c : Int32) : ∀ i, i ≤ ct P 4 → RS P (f_W P t c W0 i) (f_S P t c W0 S i) ∧ (∀ j, i ≤ j → f_W P t c W0 i 1 j = W0 1 j) ∧ (∀ j, f_W P t c W0 i 3 j = W0 3 j) ∧ fr S (f_S P t c W0 S i) ∧ f_S P t c W0 S i 282 = S 282 ∧ f_W P t c W0 i 0 7 = W0 0 7 := by
  have h4 := w.c4.2
  intro i
  induction i with
  | zero => intro _; exact ⟨hS, fun _ _ => rfl, fun _ => rfl, fr.refl, rfl, rfl⟩
  | succ i ih =>
    intro hi
    obtain ⟨h1, h2, h3, hf, h5, h7⟩ := ih (by omega)
    have eW : f_W P t c W0 (i + 1) = if f_W P t c W0 i 1 i = 2 ∧ f_W P t c W0 i 3 i = nI t ∧ (c = -1 ∨ (P 14 i >>> (c &&& 31)) &&& 1 = 0) then u2 (f_W P t c W0 i) 1 i 0 else f_W P t c W0 i := rfl
    rw [eW, f_S, h2 i (by omega), h3 i]
    by_cases q : W0 1 i = 2 ∧ W0 3 i = nI t ∧ (c = -1 ∨ (P 14 i >>> (c &&& 31)) &&& 1 = 0)
    · rw [if_pos q, if_pos q]
      refine ⟨h1.unused w (by omega) (by rw [h2 i (by omega)]; exact q.1), fun j hj => ?_, fun j => ?_, (hf.u (by omega) (by omega)).u (by omega) (by omega), ?_, ?_⟩
      · rw [u2_ne (by omega)]; exact h2 j (by omega)
      · rw [u2_ne (by omega)]; exact h3 j
      · rw [upS_ne (by omega), upS_ne (by omega)]; exact h5
      · rw [u2_ne (by omega)]; exact h7
    · rw [if_neg q, if_neg q]
      exact ⟨h1, fun j hj => h2 j (by omega), h3, hf, h5, h7⟩
theorem RT.in (w : okP P) {t : Nat} (h : RT t P V S) (ht : t < ct P 6) : RT (t + 1) P V (upS S 282 (S 282 &&& ((1 <<< (nI t &&& 31)) ^^^ -1))) := by
  have h6 := w.c6.2
  obtain ⟨h1, h2, h3⟩ := h
  refine ⟨h1.s7 w _, by rw [upS_eq]; exact h2.and, fun i hi => ?_⟩
  rw [upS_eq, h3 i hi, b_and, b_not hi, b_bit (by omega) hi]
  by_cases c : i = t
  · subst c; simp
  · by_cases c2 : i < t
    · have : i < t + 1 := by omega
      simp [c, c2, this]
    · have : ¬ i < t + 1 := by omega
      simp [c2, this]
theorem RT.of {t : Nat} (h : RT t P V S) {V' : m_V} {S' : Nat → Int32} (hS : RS P V' S') (h7 : V' 0 7 = V 0 7) (h8 : S' 282 = S 282) : RT t P V' S' := by
  obtain ⟨-, h2, h3⟩ := h
  exact ⟨hS, by rw [h8]; exact h2, fun i hi => by rw [h7, h8]; exact h3 i hi⟩
theorem goalV_7 (t : Nat) : s_goalV P V t 0 7 = V 0 7 ∧ s_goalV P V t 6 t = V 6 t ∧ (∀ u, s_goalV P V t 4 u = V 4 u) := by
  unfold s_goalV
  by_cases c : p_signalAt P (V 4 t) (P 20 t) = -1
  · rw [if_pos c]; exact ⟨rfl, rfl, fun _ => rfl⟩
  · rw [if_neg c, s_gbsV]
    by_cases c2 : s_setRouteOf P V (p_signalAt P (V 4 t) (P 20 t)) = -1
    · rw [if_pos c2]; exact ⟨rfl, rfl, fun _ => rfl⟩
    · rw [if_neg c2]
      exact ⟨by rw [u2_ne (by omega), u2_ne (by omega)], by rw [u2_ne (by omega), u2_ne (by omega)], fun u => by rw [u2_ne (by omega), u2_ne (by omega)]⟩
theorem least_at (w : okP P) {t : Nat} (ht : t < ct P 6) (c d x : Int32) : s_leastTrainIn P (u2 (u2 V 4 t d) 5 t x) c (nI t) = s_leastTrainIn P V c (nI t) := by
  have h6 := w.c6.2
  unfold s_leastTrainIn
  refine ff_congr _ _ (fun j _ hj => ?_)
  by_cases e : j = t
  · subst e; simp
  · rw [u2_ne (by omega), u2_ne (by omega)]
/-- it goes into a section, or out -/
theorem e_moves (hL : RLa P S) (wL : wfL P) (hN : wfN P V) {t : Nat} (hT : RT t P V S) (ht : t < ct P 6) : ∃ S', fX12_moves (nI t) (rowS X S) = some ((), rowS X S') ∧ RT (t + 1) P (s_turn P t V) S' ∧ fr S S' := by
  have w := wL.ok
  have h0 := w.c0.2
  have h4 := w.c4.2
  have h6 := w.c6.2
  have hS := hT.1
  have hT1 := hT.in w ht
  have hS1 := hT1.1
  have f1 : fr S (upS S 282 (S 282 &&& ((1 <<< (nI t &&& 31)) ^^^ -1))) := fr.refl.u (by omega) (by omega)
  have hL1 := hL.fr wL f1
  unfold fX12_moves s_turn
  rw [e_rAl (by decide), e_wAl (by decide), ix_la, e_rA (by omega), hS1.at ht, it_e]
  generalize upS S 282 (S 282 &&& ((1 <<< (nI t &&& 31)) ^^^ -1)) = S1 at hT1 hS1 f1 hL1 ⊢
  by_cases c1 : V 4 t = -1
  · rw [c1, if_pos (by decide), if_pos (Or.inl rfl)]
    exact ⟨S1, rfl, hT1, f1⟩
  · obtain ⟨a, ea, ha⟩ : ∃ a, V 4 t = nI a ∧ a < ct P 0 := by
      rcases hN.2.2 t ht with e | e
      · exact absurd e c1
      · exact e
    rw [if_neg (by rw [ea, nI_1]; exact nI_ne0 (by omega) (by omega)), e_rAl (by decide), hS1.cr, ca_s (e_bitOf _ (by omega)), it_e, if_b0, b_tst (by omega)]
    by_cases c2 : bt (V 0 6) t = false
    · rw [if_pos c2, if_neg (by simp [c1, c2, b2])]
      have hS2 := hS1.u5 w ht (V 5 t + 1)
      have hT2 := hT1.of hS2 (u2_ne (by omega)) (upS_ne (by omega))
      have f2 : fr S (upS S1 (276 + t) (V 5 t + 1)) := f1.u (by omega) (by omega)
      have hL2 := hL.fr wL f2
      have e8 : (8 + (nI a + 1) - 1 : Int32) = nI (8 + a) := by rw [nI_1, ix_la, ix_sl (by omega)]; rfl
      rw [ix_la, e_rA (by omega), hS1.st ht, e_wA (by omega), e_rA (by omega), upS_eq, ix_la, e_rA (by omega), hS2.at ht, u2_ne (by omega), ea, e8, e_rA (by omega), hL2.len ha, it_e]
      unfold s_runV
      rw [ea, nI_clamp (by omega)]
      generalize upS S1 (276 + t) (V 5 t + 1) = S2 at hT2 hS2 f2 hL2 ⊢
      have hN2 : wfN P (u2 V 5 t (V 5 t + 1)) := hN.row (Or.inl ⟨by omega, by omega⟩)
      generalize hV2 : u2 V 5 t (V 5 t + 1) = V2 at hT2 hS2 hN2 ⊢
      by_cases c3 : P 3 a ≤ V 5 t + 1
      · rw [if_pos c3, if_pos c3]
        obtain ⟨S3, g1, g2, g3, g4⟩ := e_goesTo (X := X) hL2 wL hS2 hN2.2.1 ht
        obtain ⟨v7, v6, v4⟩ := goalV_7 (P := P) (V := V2) t
        have f3 := f2.trans g3
        have hL3 := hL.fr wL f3
        have hN3 := hN2.goalV t
        have hT3 := hT2.of g2 v7 g4
        rw [ca_s g1, it_e]
        unfold s_moveV
        by_cases c4 : s_goal P V2 t = -2
        · rw [if_pos c4, if_pos c4, e_rAl (by decide), e_wAl (by decide), e_rA (by omega), e_wA (by omega), upS_ne (by omega), g2.wd ht]
          refine ⟨_, rfl, ⟨?_, ?_, fun i hi => ?_⟩, (f3.u (by omega) (by omega)).u (by omega) (by omega)⟩
          · exact ((g2.s7 w _).w7 _).u6 w ht _
          · rw [upS_ne (by omega), upS_eq]
            exact hT3.2.1.or (lowB.bit ht (by omega))
          · rw [u2_ne (by omega), u2_eq, upS_ne (by omega), upS_eq, b_or, b_or, hT3.2.2 i hi, b_bit (by omega) hi]
            by_cases q : i = t
            · subst q; simp
            · simp [q]
        · rw [if_neg c4, if_neg c4]
          have hS4 := (g2.u4 w ht (s_goal P V2 t)).u5 w ht 0
          have f4 : fr S (upS (upS S3 (271 + t) (s_goal P V2 t + 1)) (276 + t) 0) := (f3.u (by omega) (by omega)).u (by omega) (by omega)
          have hT4 := hT3.of hS4 (by rw [u2_ne (by omega), u2_ne (by omega)]) (by rw [upS_ne (by omega), upS_ne (by omega)])
          rw [e_wA (by omega), e_wA (by omega), jo1_e]
          have hL4 := hL.fr wL f4
          generalize upS (upS S3 (271 + t) (s_goal P V2 t + 1)) (276 + t) 0 = S4 at hS4 f4 hT4 hL4 ⊢
          have hgo : s_goal P V2 t = -1 ∨ ∃ d, s_goal P V2 t = nI d ∧ d < ct P 0 := by
            rcases goal_in wL hN2 t with e | e | e
            · exact Or.inl e
            · exact absurd e c4
            · exact Or.inr e
          -- the loop over routes
          have fin : ∀ (W0 : m_V) (S5 : Nat → Int32), RT (t + 1) P W0 S5 → fr S S5 → ∃ S', (lz1 (fun L186 x11 => (rA 220 469 4 fun v12 => (it (v12 ≤ x11) (re ()) (rA 220 469 (249 + x11) fun v13 => (it (v13 = (nI t + 1)) (jo0 ((wA 220 469 (229 + x11) 0 (wA 220 469 (249 + x11) 0 (L186 (x11 + 1))))) (fun J234 => (it (s_goal P V2 t < 0) J234 (ca (fX12_sectionsOf x11) fun v14 => (ca (fX12_bitOf v14 (s_goal P V2 t)) fun v15 => (it (v15 = 0) J234 (L186 (x11 + 1)))))))) (L186 (x11 + 1))))))) FU 0) (rowS X S5) = some ((), rowS X S') ∧ RT (t + 1) P (f_W P t (s_goal P V2 t) W0 (ct P 4)) S' ∧ fr S S' := by
            intro W0 S5 hT5 f5
            have inv := f_inv w hT5.1 t (s_goal P V2 t)
            obtain ⟨i1, -, -, i4, i5, i6⟩ := inv (ct P 4) (Nat.le_refl _)
            refine ⟨_, ?_, hT5.of i1 i6 i5, f5.trans i4⟩
            refine lz1_X (n := ct P 4) (fun i => rowS X (f_S P t (s_goal P V2 t) W0 S5 i)) (by omega) (fun i L hi => ?_) (fun L => ?_)
            · obtain ⟨j1, j2, j3, j4, j5, -⟩ := inv i (by omega)
              have hLi := hL.fr wL (f5.trans j4)
              show (rA 220 469 4 _) (rowS X _) = _
              rw [e_rAl (by decide), hLi.n4 w, it_e, if_neg (nI_ge hi (by omega)), ix_la, e_rA (by omega), j1.us hi, j2 i (Nat.le_refl _), j3 i, it_e, nI_1 i, f_S, jo0_e]
              by_cases q1 : W0 1 i = 2
              · rw [if_pos q1, if_cp]
                by_cases q2 : W0 3 i = nI t
                · rw [if_pos q2, it_e]
                  rcases hgo with e | ⟨d, e, hd⟩
                  · rw [e, if_pos (by decide), if_pos ⟨q1, q2, Or.inl rfl⟩, ix_la, e_wA (by omega), e_wA (by omega)]
                  · rw [e] at hLi
                    rw [e, if_neg (nI_pos (by omega)), ca_s (e_sectionsOf hLi.ro w wL.r hi), ca_s (e_bitOf _ (by omega)), it_e, if_b0, b_tst (by omega)]
                    have m1 : ¬ nI d = -1 := nI_m1 (by omega)
                    by_cases q3 : bt (P 14 i) d = false
                    · rw [if_pos q3, if_pos ⟨q1, q2, Or.inr (by rw [b2_0]; exact q3)⟩, ix_la, e_wA (by omega), e_wA (by omega)]
                    · rw [if_neg q3, if_neg (by simp [m1, q3, b2])]
                · rw [if_neg q2, if_neg (by simp [q2])]
              · rw [if_neg q1, if_neg (fun e => nI_ne0 (n := t + 1) (by omega) (by omega) (by rw [← nI_1]; exact e.symm)), if_neg (by simp [q1])]
            · show (rA 220 469 4 _) (rowS X _) = _
              rw [e_rAl (by decide), (hL.fr wL (f5.trans i4)).n4 w, it_e, if_pos (nI_le (Nat.le_refl _) (by omega))]
              rfl
          unfold s_enterV s_ent1
          rw [it_e]
          rcases hgo with e | ⟨d, e, hd⟩
          · rw [if_neg (by rw [e]; decide)]
            dsimp only
            rw [jo0_e, it_e, if_pos (by decide), if_pos (by rw [if_pos e])]
            exact fin _ _ hT4 f4
          · have hge : (0 : Int32) ≤ s_goal P V2 t := by rw [e]; exact nI_pos' (by omega)
            have hm1 : ¬ s_goal P V2 t = -1 := by rw [e]; exact nI_m1 (by omega)
            have hlt := e_trainIn (X := rowS X S4) hL4.ro w hS4.ro (s_goal P V2 t) (nI t)
            rw [least_at w ht] at hlt
            rw [if_pos hge, ca_s hlt, if_neg hm1]
            dsimp only
            rw [jo0_e, it_e]
            simp only [least_nn w]
            by_cases c5 : s_leastTrainIn P (s_goalV P V2 t) (s_goal P V2 t) (nI t) = -1
            · rw [if_pos c5, if_pos c5]
              exact fin _ _ hT4 f4
            · rw [if_neg c5, if_neg c5]
              obtain ⟨S5, k1, k2, k3, k4⟩ := e_meets (X := X) w hL4 hS4 (t := t) (d := d) ht (by omega) (by rw [u2_ne (by omega), u2_eq]; exact e) (nI t)
              rw [← e] at k1 k2 k4
              rw [ca_s k1]
              refine fin _ _ ⟨k2, ?_, fun i hi => ?_⟩ (f4.trans k3)
              · rw [k4]; exact hT4.2.1.and
              · have : s_crashV P (u2 (u2 (s_goalV P V2 t) 4 t (s_goal P V2 t)) 5 t 0) t (s_goal P V2 t) 0 7 = (u2 (u2 (s_goalV P V2 t) 4 t (s_goal P V2 t)) 5 t 0) 0 7 &&& (s_cr P (u2 (u2 (s_goalV P V2 t) 4 t (s_goal P V2 t)) 5 t 0) t (s_goal P V2 t) ^^^ -1) := u2_eq
                rw [this, k4, b_and, b_and, hT4.2.2 i hi, Bool.and_assoc]
      · rw [if_neg c3, if_neg c3]
        exact ⟨S2, rfl, hT2, f2⟩
    · rw [if_neg c2, if_pos (Or.inr (by rw [b2_0]; exact c2))]
      exact ⟨S1, rfl, hT1, f1⟩
end MV
