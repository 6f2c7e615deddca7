/-! a tick -/
section TK
variable {P V : m_V} {X : X_} {S : Nat → Int32}
/-- in the middle of a tick: who waits, of the trains below t -/
def RT (t : Nat) (P V : m_V) (S : Nat → Int32) : Prop := RS P V S ∧ lowB (S 282) (ct P 6) ∧ ∀ i, i < 32 → bt (V 0 7) i = (decide (i < t) && bt (S 282) i)
theorem RS.ro (hS : RS P V S) : RS P V ((rowS X S).1 220) := by rw [rowS_220]; exact hS
theorem RLa.ro (hS : RLa P S) : RLa P ((rowS X S).1 220) := by rw [rowS_220]; exact hS
theorem e_wA {α : Type} {k : Nat} {v : Int32} {F : RM α} (h : k < 469) : wA 220 469 (nI k) v F (rowS X S) = F (rowS X (upS S k v)) := by
  rw [wA_n h (by decide), rowS_s]
theorem e_rA {α : Type} {k : Nat} {F : Int32 → RM α} (h : k < 469) : rA 220 469 (nI k) F (rowS X S) = F (S k) (rowS X S) := by
  rw [rA_n h (by decide), rowS_220]
theorem e_wAl {α : Type} {k : Nat} {v : Int32} {F : RM α} (h : (OfNat.ofNat k : Nat) < 469) : wA 220 469 (OfNat.ofNat k) v F (rowS X S) = F (rowS X (upS S (OfNat.ofNat k) v)) := e_wA h
theorem e_rAl {α : Type} {k : Nat} {F : Int32 → RM α} (h : (OfNat.ofNat k : Nat) < 469) : rA 220 469 (OfNat.ofNat k) F (rowS X S) = F (S (OfNat.ofNat k)) (rowS X S) := e_rA h
theorem leads_nn (wL : wfL P) {k : Nat} (hk : k < ct P 2) (f wy : Int32) : p_leadsTo P k f wy = -1 ↔ ¬ (if wy = 0 then P 5 k else P 6 k) = f := by
  have w := wL.ok
  have h0 := w.c0.2
  obtain ⟨⟨a, ea, ha⟩, ⟨b, eb, hb⟩, -⟩ := wL.t k hk
  unfold p_leadsTo
  by_cases c : (if wy = 0 then P 5 k else P 6 k) = f
  · rw [if_pos c]
    refine ⟨fun e => ?_, fun e => absurd c e⟩
    by_cases c2 : wy = 0
    · rw [if_pos c2, eb] at e; exact absurd e (nI_m1 (by omega))
    · rw [if_neg c2, ea] at e; exact absurd e (nI_m1 (by omega))
  · rw [if_neg c]
    exact ⟨fun _ => c, fun _ => rfl⟩
/-- over the tracks -/
theorem e_gbt (hL : RLa P S) (wL : wfL P) (hS : RS P V S) {t : Nat} (ht : t < ct P 6) (hs : p_signalAt P (V 4 t) (P 20 t) = -1) : fX12_goesTo (nI t) (rowS X S) = some (s_gbt P V t, rowS X S) := by
  have w := wL.ok
  have hb2 := w.c2.2
  have hb6 := w.c6.2
  have hb1 := w.c1.2
  unfold fX12_goesTo s_gbt
  rw [ca_s (e_signalFor hL.ro w hS.ro ht), hs, it_e, if_pos (by decide), ix_la, e_rA (by omega), hS.at ht]
  refine lz2_all (n := ct P 2) (fun i a Y o => Y = rowS X S ∧ ∃ b : Bool, a = b2 b ∧ o = some (s_gbtL P V t i (ct P 2 - i) (if b then -2 else -1), rowS X S)) (fun a Y o L hR => ?_) (fun i a Y o L hi hR ih => ?_) (ct P 2) 0 FU 0 (rowS X S) _ (by omega) (by rw [FU_eq]; omega) ⟨rfl, false, rfl, rfl⟩
  · obtain ⟨rfl, b, rfl, rfl⟩ := hR
    rw [e_rAl (by decide), hL.n2 w, it_e, if_pos (nI_le (Nat.le_refl _) (by omega)), it_e, if_b0, Nat.sub_self]
    cases b <;> rfl
  · obtain ⟨rfl, b, rfl, rfl⟩ := hR
    have ih := fun b' : Bool => ih (b2 b') (rowS X S) _ ⟨rfl, b', rfl, rfl⟩
    rw [e_rAl (by decide), hL.n2 w, it_e, if_neg (nI_ge hi (by omega)), ix_la, e_rA (by omega), hL.v20 ht, jo1_e, it_e]
    rw [gbtL_step hi]
    have e1 : (V 4 t + 1 - 1 : Int32) = V 4 t := Int32.add_sub_cancel _ _
    have rd : ∀ J : Int32 → RM Int32, (if P 20 t = 0 then (rA 220 469 (26 + nI i) fun v16 => J v16) (rowS X S) else (rA 220 469 (42 + nI i) fun v15 => J v15) (rowS X S)) = J (if P 20 t = 0 then P 5 i else P 6 i) (rowS X S) := by
      intro J
      by_cases c : P 20 t = 0
      · rw [if_pos c, if_pos c, ix_la, e_rA (by omega), hL.t5 hi]
      · rw [if_neg c, if_neg c, ix_la, e_rA (by omega), hL.t6 hi]
    rw [rd, it_e, e1]
    by_cases c : (if P 20 t = 0 then P 5 i else P 6 i) = V 4 t
    · rw [if_pos c, if_neg (fun e => (leads_nn wL hi _ _).mp e c)]
      have J189 : ∀ i1 i2 i3 : Int32, i1 = nI (221 + t) → i2 = nI (42 + i) → i3 = nI (26 + i) → (rA 220 469 i1 fun v9 => it (v9 = 0) (rA 220 469 i2 fun v11 => re v11) (rA 220 469 i3 fun v10 => re v10)) (rowS X S) = some (p_leadsTo P i (V 4 t) (P 20 t), rowS X S) := by
        intro i1 i2 i3 h1 h2 h3
        rw [h1, h2, h3, e_rA (by omega), hL.v20 ht, it_e, p_leadsTo, if_pos c]
        by_cases c2 : P 20 t = 0
        · rw [if_pos c2, if_pos c2, e_rA (by omega), hL.t6 hi]; rfl
        · rw [if_neg c2, if_neg c2, e_rA (by omega), hL.t5 hi]; rfl
      obtain ⟨-, -, h7, -⟩ := wL.t i hi
      rw [ix_la, e_rA (by omega), hL.t7 hi, jo0_e, it_e]
      unfold s_leadsNow
      rcases h7 with h7 | ⟨p, h7, hp⟩
      · rw [h7, if_pos (by decide), J189]
        · simp
        all_goals first | rfl | exact ix_la _ _
      · have e3 : (nI p + 1 - 1 : Int32) = nI p := Int32.add_sub_cancel _ _
        rw [h7, if_neg (by rw [nI_1]; exact nI_ne0 (by omega) (by omega)), e_rAl (by decide), hS.rev, ix_la, e_rA (by omega), hL.t7 hi, h7, ix_la, e_rA (by omega), hL.t8 hi, it_e, e3]
        have hm : (decide (nI p = -1)) = false := decide_eq_false (nI_m1 (by omega))
        rw [hm]
        by_cases c4 : (V 0 3 >>> (nI p &&& 31)) &&& 1 = P 8 i
        · rw [if_pos c4, J189]
          · simp [c4]
          all_goals first | rfl | exact ix_la _ _
        · rw [if_neg c4, nI_1]
          have := ih true
          simp only [b2_t] at this
          rw [this]
          simp [c4]
    · rw [if_neg c, if_pos ((leads_nn wL hi _ _).mpr c), nI_1]
      exact ih b
theorem ff_get {p : Nat → Bool} {n : Nat} (h : ¬ ff p 0 n = -1) : ∃ q, q < n ∧ ff p 0 n = nI q ∧ p q = true := by
  rcases ff_cases p n 0 with e | ⟨q, -, h2, h3, h4⟩
  · exact absurd e h
  · exact ⟨q, by omega, h3, h4⟩
/-- by its signal, or the tracks: whither, and who uses which route then -/
theorem e_goesTo (hL : RLa P S) (wL : wfL P) (hS : RS P V S) (hB : wfB P V) {t : Nat} (ht : t < ct P 6) : ∃ S', fX12_goesTo (nI t) (rowS X S) = some (s_goal P V t, rowS X S') ∧ RS P (s_goalV P V t) S' ∧ fr S S' ∧ S' 282 = S 282 := by
  have w := wL.ok
  have hb4 := w.c4.2
  have hb3 := w.c3.2
  unfold s_goal s_goalV
  by_cases c : p_signalAt P (V 4 t) (P 20 t) = -1
  · rw [if_pos c, if_pos c]
    exact ⟨S, e_gbt hL wL hS ht c, hS, fr.refl, rfl⟩
  · rw [if_neg c, if_neg c]
    obtain ⟨g, hg, eg, -⟩ := ff_get c
    have eg : p_signalAt P (V 4 t) (P 20 t) = nI g := eg
    unfold fX12_goesTo
    rw [ca_s (e_signalFor hL.ro w hS.ro ht), eg, it_e, if_neg (nI_pos (by omega)), ca_s (e_setOf hL.ro w hS.ro _), it_e]
    unfold s_gbs s_gbsV
    by_cases c2 : s_setRouteOf P V (nI g) = -1
    · rw [c2, if_neg (by decide), if_pos rfl, if_pos rfl]
      exact ⟨S, rfl, hS, fr.refl, rfl⟩
    · obtain ⟨r, hr, er, hp⟩ := ff_get c2
      have er : s_setRouteOf P V (nI g) = nI r := er
      rw [decide_eq_true_eq] at hp
      obtain ⟨-, ⟨m, em, hm, -⟩, -⟩ := wL.r r hr
      have h12 := (hB r hr).1 hp.2
      have hm0 : 0 < m := by
        rcases Nat.eq_zero_or_pos m with z | z
        · rw [em, z] at h12; exact absurd nI_0 h12
        · exact z
      have e3 : (126 : Int32) + 6 * nI r = nI (126 + 6 * r + 0) := by rw [ix_lm, ix_la]; rfl
      rw [er, if_pos (nI_pos' (by omega)), if_neg (nI_m1 (by omega)), if_neg (nI_m1 (by omega)), ix_la, e_wA (by omega), ix_la, e_wA (by omega), e3, e_rA (by omega), nI_clamp (by omega)]
      refine ⟨_, ?_, hS.used w hr (nI t) (by rw [hp.2]; decide), (fr.refl.u (by omega) (by omega)).u (by omega) (by omega), ?_⟩
      · rw [re_e, upS_ne (by omega), upS_ne (by omega), hL.r13 hr (by rw [em, nI_clamp (by omega)]; exact hm0)]
        rfl
      · rw [upS_ne (by omega), upS_ne (by omega)]
end TK
