/-! sections, points, signals, routes, trains, now: both -/
section S2
variable {X : X_}
theorem Inv.L (h : Inv X) : RLa (bP X 4) ((sI X 218 0 0).1 220) := by rw [t_220]; exact h.w.r
theorem Inv.S (h : Inv X) : RS (bP X 4) (bV X 47) ((sI X 218 0 0).1 220) := by rw [t_220]; exact h.w.s.1
theorem Inv.S7 (h : Inv X) : (sI X 218 0 0).1 220 282 = bV X 47 0 7 := by rw [t_220]; exact h.w.s.2
theorem k_least {a b : Int32} (h : Inv X) : fX8_leastTrainIn 47 a b X = some (s_leastTrainIn (bP X 4) (bV X 47) a b, X) := gd_t h.w.ok
theorem k_showing (h : Inv X) : fX8_showing 47 X = some (s_showing (bP X 4) (bV X 47), X) := gd_t h.w.ok
theorem k_failing {a : Int32} (h : Inv X) : fX8_failing 47 a X = some (s_failing (bV X 47) a, X) := gd_t h.w.ok
theorem k_notFree (h : Inv X) : fX8_notFree 47 X = some (s_notFree (bP X 4) (bV X 47), X) := gd_t h.w.ok
theorem k_trainsOut (h : Inv X) : fX8_trainsOut 47 X = some (s_trainsOut (bP X 4) (bV X 47), X) := gd_t h.w.ok
theorem k_usedBy {a : Int32} (h : Inv X) : fX8_routesUsedBy 47 a X = some (s_routesUsedBy (bP X 4) (bV X 47) a, X) := gd_t h.w.ok
theorem k_setOf {a : Int32} (h : Inv X) : fX8_setRouteOf 47 a X = some (s_setRouteOf (bP X 4) (bV X 47) a, X) := gd_t h.w.ok
theorem k_with {a : Int32} (h : Inv X) : fX5_routesWith 4 a X = some (p_routesWith (bP X 4) a, X) := gd_t h.w.ok
theorem k_within {a : Int32} (h : Inv X) : fX5_pointsWithin 4 a X = some (p_pointsWithin (bP X 4) a, X) := gd_t h.w.ok
theorem k_needing {a b : Int32} (h : Inv X) : fX5_routesNeeding 4 a b X = some (p_routesNeeding (bP X 4) a b, X) := gd_t h.w.ok
theorem k_routesOf {a : Int32} (h : Inv X) : fX5_routesOf 4 a X = some (p_routesOf (bP X 4) a, X) := gd_t h.w.ok
theorem sim_section (a b : Int32) : Sim (fX11_section a b) (fX12_section a b) := by
  refine sim_rd (fun X hX => ?_)
  have w := hX.w
  have ok := w.ok
  have h0 := ok.c0.2
  have h1 := ok.c1.2
  have h4 := ok.c4.2
  have hL := hX.L
  have hS := hX.S
  unfold fX11_section
  rw [ca_s (k_has (by decide)), ca_s (e_isSection hL ok a)]
  by_cases c : 0 ≤ a ∧ a < bP X 4 1 0
  · rw [it_f (bz_t c), it_f (bz_t c)]
    rw [ok.c0.1] at c
    obtain ⟨k, hk, rfl⟩ := idx_of (by omega) c
    rw [jo1_e]
    by_cases b4 : b = 4
    · subst b4
      refine ⟨p_routesWith (bP X 4) (nI k), ?_, ?_⟩
      · rw [it_f (show ¬ (4 : Int32) = 0 by decide), it_f (show ¬ (4 : Int32) = 1 by decide), it_f (show ¬ (4 : Int32) = 2 by decide), it_f (show ¬ (4 : Int32) = 3 by decide), it_t rfl, ca_s (k_with hX)]
        rfl
      · rw [it_t rfl]
        unfold p_routesWith
        refine lz2_lo (E := fun x => some (x, sI X 218 0 0)) _ (by omega) (fun i x L hi => ?_) (fun x L => ?_)
        · have hz : (0 : Int32) <<< (nI i &&& 31) = 0 := b_ext (fun j hj => by rw [b_shl i (by omega) 0 hj, b_0, b_0, Bool.and_false])
          rw [rA_l (by decide) (by decide), hL.n4 ok, it_e, if_neg (nI_ge hi (by omega)), ca_s (e_sectionsOf hL ok w.l.r hi), ca_s (e_bitOf _ (by omega)), it_e, nI_1, b_tst (by omega)]
          cases bt (bP X 4 14 i) k <;> simp [b2, hz]
        · rw [rA_l (by decide) (by decide), hL.n4 ok, it_e, if_pos (nI_le (Nat.le_refl _) (by omega))]
          rfl
    · rw [it_f b4]
      dsimp only
      rw [jo1_e]
      by_cases b5 : b = 5
      · subst b5
        refine ⟨p_pointsWithin (bP X 4) (nI k), ?_, ?_⟩
        · rw [it_f (show ¬ (5 : Int32) = 0 by decide), it_f (show ¬ (5 : Int32) = 1 by decide), it_f (show ¬ (5 : Int32) = 2 by decide), it_f (show ¬ (5 : Int32) = 3 by decide), it_f (show ¬ (5 : Int32) = 4 by decide), it_t rfl, ca_s (k_within hX)]
          rfl
        · rw [it_t rfl]
          unfold p_pointsWithin
          refine lz2_bo (E := fun x => some (x, sI X 218 0 0)) _ (by omega) (fun i x L hi => ?_) (fun x L => ?_)
          · rw [rA_l (by decide) (by decide), hL.n1 ok, it_e, if_neg (nI_ge hi (by omega)), ix_la, rA_n (by omega) (by decide), hL.lie hi, it_e, nI_1]
            simp
          · rw [rA_l (by decide) (by decide), hL.n1 ok, it_e, if_pos (nI_le (Nat.le_refl _) (by omega))]
            rfl
      · rw [it_f b5]
        dsimp only
        by_cases b0 : b = 0
        · rw [it_t b0, it_t b0, k_P (by omega) (by decide) (by decide), ix_la, rA_n (by omega) (by decide), hL.len hk]
          exact ⟨_, rfl, rfl⟩
        · rw [it_f b0, it_f b0]
          by_cases b1 : b = 1
          · rw [it_t b1, it_t b1, ca_s (k_least hX), ca_s (e_trainIn hL ok hS _ _)]
            exact ⟨_, rfl, rfl⟩
          · rw [it_f b1, it_f b1]
            by_cases b2' : b = 2
            · rw [it_t b2', it_t b2', ca_s (k_showing hX), ca_s (e_showsFull hL ok hS w.v hk), it_e, b_tst (by omega), if_b0]
              cases bt (s_showing (bP X 4) (bV X 47)) k
              · exact ⟨_, rfl, rfl⟩
              · exact ⟨_, rfl, rfl⟩
            · rw [it_f b2', it_f b2']
              by_cases b3 : b = 3
              · rw [it_t b3, it_t b3, ca_s (k_failing hX), ix_la, rA_n (by omega) (by decide), hS.fl hk]
                exact ⟨_, rfl, rfl⟩
              · rw [it_f b3, it_f b3, it_f b4, it_f b4, it_f b5, it_f b5]
                exact ⟨_, rfl, rfl⟩
  · rw [it_t (bz_f c), it_t (bz_f c)]
    exact ⟨_, rfl, rfl⟩
theorem sim_points (a b : Int32) : Sim (fX11_points a b) (fX12_points a b) := by
  refine sim_rd (fun X hX => ?_)
  have w := hX.w
  have ok := w.ok
  have h1 := ok.c1.2
  have hL := hX.L
  have hS := hX.S
  unfold fX11_points
  rw [ca_s (k_has (by decide)), ca_s (e_arePoints hL ok a)]
  by_cases c : 0 ≤ a ∧ a < bP X 4 1 1
  · rw [it_f (bz_t c), it_f (bz_t c)]
    rw [ok.c1.1] at c
    obtain ⟨k, hk, rfl⟩ := idx_of (by omega) c
    by_cases b0 : b = 0
    · rw [it_t b0, it_t b0, k_P (by omega) (by decide) (by decide), ix_la, rA_n (by omega) (by decide), hL.lie hk]
      exact ⟨_, rfl, rfl⟩
    · rw [it_f b0, it_f b0]
      by_cases b1 : b = 1
      · rw [it_t b1, it_t b1, gI_e, V_0, rA_l (by decide) (by decide), hS.rev]
        exact ⟨_, rfl, rfl⟩
      · rw [it_f b1, it_f b1]
        by_cases b2' : b = 2
        · have := e_wanting (X := sI X 218 0 0) hL ok k (by omega) 0 (Or.inl rfl)
          rw [if_pos rfl] at this
          rw [it_t b2', it_t b2', ca_s (k_needing hX), ca_s this]
          exact ⟨_, rfl, rfl⟩
        · rw [it_f b2', it_f b2']
          by_cases b3 : b = 3
          · have := e_wanting (X := sI X 218 0 0) hL ok k (by omega) 1 (Or.inr rfl)
            rw [if_neg (by decide)] at this
            rw [it_t b3, it_t b3, ca_s (k_needing hX), ca_s this]
            exact ⟨_, rfl, rfl⟩
          · rw [it_f b3, it_f b3]
            exact ⟨_, rfl, rfl⟩
  · rw [it_t (bz_f c), it_t (bz_f c)]
    exact ⟨_, rfl, rfl⟩
theorem sim_signal (a b : Int32) : Sim (fX11_signal a b) (fX12_signal a b) := by
  refine sim_rd (fun X hX => ?_)
  have w := hX.w
  have ok := w.ok
  have h3 := ok.c3.2
  have h4 := ok.c4.2
  have hL := hX.L
  have hS := hX.S
  unfold fX11_signal
  rw [ca_s (k_has (by decide)), rA_l (by decide) (by decide), hL.n3 ok, ca_s (e_isIn _ _ _)]
  simp only [isIn_n a (show ct (bP X 4) 3 < 2 ^ 31 by omega)]
  rw [← ok.c3.1]
  by_cases c : 0 ≤ a ∧ a < bP X 4 1 3
  · rw [it_f (bz_t c), it_f (bz_t c)]
    rw [ok.c3.1] at c
    obtain ⟨k, hk, rfl⟩ := idx_of (by omega) c
    by_cases b0 : b = 0
    · rw [it_t b0, it_t b0, k_P (by omega) (by decide) (by decide), ix_la, rA_n (by omega) (by decide), hL.g9 hk]
      exact ⟨_, rfl, rfl⟩
    · rw [it_f b0, it_f b0]
      by_cases b1 : b = 1
      · rw [it_t b1, it_t b1, k_P (by omega) (by decide) (by decide), ix_la, rA_n (by omega) (by decide), hL.g10 hk]
        exact ⟨_, rfl, rfl⟩
      · rw [it_f b1, it_f b1]
        by_cases b2' : b = 2
        · rw [it_t b2', it_t b2', ca_s (k_setOf hX), ca_s (e_setOf hL ok hS _), it_e, it_e]
          by_cases q : s_setRouteOf (bP X 4) (bV X 47) (nI k) = -1
          · rw [q, if_pos rfl, if_neg (by decide)]
            exact ⟨_, rfl, rfl⟩
          · obtain ⟨r, hr, er, -⟩ := ff_get q
            have er : s_setRouteOf (bP X 4) (bV X 47) (nI k) = nI r := er
            rw [if_neg q, er, if_pos (nI_pos' (by omega))]
            exact ⟨_, rfl, rfl⟩
        · rw [it_f b2', it_f b2']
          by_cases b3 : b = 3
          · rw [it_t b3, it_t b3, ca_s (k_routesOf hX), ca_s (e_routesOf hL ok _)]
            exact ⟨_, rfl, rfl⟩
          · rw [it_f b3, it_f b3]
            exact ⟨_, rfl, rfl⟩
  · rw [it_t (bz_f c), it_t (bz_f c)]
    exact ⟨_, rfl, rfl⟩
theorem sim_route (a b : Int32) : Sim (fX11_route a b) (fX12_route a b) := by
  refine sim_rd (fun X hX => ?_)
  have w := hX.w
  have ok := w.ok
  have h4 := ok.c4.2
  have hL := hX.L
  have hS := hX.S
  unfold fX11_route
  rw [ca_s (k_has (by decide)), ca_s (e_isRoute hL ok a)]
  by_cases c : 0 ≤ a ∧ a < bP X 4 1 4
  · rw [it_f (bz_t c), it_f (bz_t c)]
    rw [ok.c4.1] at c
    obtain ⟨r, hr, rfl⟩ := idx_of (by omega) c
    by_cases b0 : b = 0
    · rw [it_t b0, it_t b0, k_P (by omega) (by decide) (by decide), ix_la, rA_n (by omega) (by decide), hL.r11 hr]
      exact ⟨_, rfl, rfl⟩
    · rw [it_f b0, it_f b0]
      by_cases b1 : b = 1
      · rw [it_t b1, it_t b1, k_V (by omega) (by decide) (by decide), ix_la, rA_n (by omega) (by decide), hS.how hr]
        exact ⟨_, rfl, rfl⟩
      · rw [it_f b1, it_f b1]
        by_cases b2' : b = 2
        · rw [it_t b2', it_t b2', k_P (by omega) (by decide) (by decide), ix_la, rA_n (by omega) (by decide), hL.r12 hr]
          exact ⟨_, rfl, rfl⟩
        · rw [it_f b2', it_f b2']
          by_cases b3 : b = 3
          · rw [it_t b3, it_t b3, k_P (by omega) (by decide) (by decide), ix_la, rA_n (by omega) (by decide), hL.r17 hr]
            exact ⟨_, rfl, rfl⟩
          · rw [it_f b3, it_f b3]
            by_cases b4 : b = 4
            · rw [it_t b4, it_t b4, k_P (by omega) (by decide) (by decide), ca_s (e_conflictsOf hL ok w.l.r w.c hr)]
              exact ⟨_, rfl, rfl⟩
            · rw [it_f b4, it_f b4]
              by_cases b5 : b = 5
              · rw [it_t b5, it_t b5, k_P (by omega) (by decide) (by decide), ix_la, rA_n (by omega) (by decide), hL.r15 hr]
                exact ⟨_, rfl, rfl⟩
              · rw [it_f b5, it_f b5]
                by_cases b6 : b = 6
                · rw [it_t b6, it_t b6, k_P (by omega) (by decide) (by decide), ix_la, rA_n (by omega) (by decide), hL.r16 hr]
                  exact ⟨_, rfl, rfl⟩
                · rw [it_f b6, it_f b6]
                  by_cases b7 : b = 7
                  · rw [it_t b7, it_t b7, k_V (by omega) (by decide) (by decide), it_e, k_V (by omega) (by decide) (by decide), ix_la, rA_n (by omega) (by decide), hS.tm hr]
                    by_cases q : bV X 47 1 r = 3
                    · rw [if_pos q, if_pos q]
                      exact ⟨_, rfl, rfl⟩
                    · rw [if_neg q, if_neg q]
                      exact ⟨_, rfl, rfl⟩
                  · rw [it_f b7, it_f b7]
                    by_cases b8 : b = 8
                    · rw [it_t b8, it_t b8, k_V (by omega) (by decide) (by decide), it_e, k_V (by omega) (by decide) (by decide), ix_la, rA_n (by omega) (by decide), hS.us hr]
                      by_cases q : bV X 47 1 r = 2
                      · rw [if_pos q, if_pos q]
                        exact ⟨bV X 47 3 r, rfl, by rw [Int32.add_sub_cancel]; rfl⟩
                      · rw [if_neg q, if_neg q]
                        exact ⟨_, rfl, rfl⟩
                    · rw [it_f b8, it_f b8]
                      exact ⟨_, rfl, rfl⟩
  · rw [it_t (bz_f c), it_t (bz_f c)]
    exact ⟨_, rfl, rfl⟩
theorem sim_over (a b : Int32) : Sim (fX11_over a b) (fX12_over a b) := by
  refine sim_rd (fun X hX => ?_)
  have w := hX.w
  have ok := w.ok
  have h4 := ok.c4.2
  have hL := hX.L
  unfold fX11_over
  rw [ca_s (k_has (by decide)), ca_s (e_isRoute hL ok a)]
  by_cases c : 0 ≤ a ∧ a < bP X 4 1 4
  · rw [it_f (bz_t c), it_f (bz_t c)]
    rw [ok.c4.1] at c
    obtain ⟨r, hr, rfl⟩ := idx_of (by omega) c
    obtain ⟨-, ⟨m, em, hm, -⟩, -⟩ := w.l.r r hr
    rw [ix_la, rA_n (by omega) (by decide), hL.r12 hr, em, ca_s (e_isIn _ _ _), it_e, it_e, k_P (by omega) (by decide) (by decide), em, it_e]
    simp only [isIn_n b (show m < 2 ^ 31 by omega)]
    by_cases c0 : b < 0
    · rw [if_pos c0, b2_tri, if_neg (fun e => ?_)]
      · exact ⟨_, rfl, rfl⟩
      · have := (of_decide_eq_true e).1
        rw [i32_le] at this
        rw [i32_lt] at c0
        omega
    · have c0' : 0 ≤ b := by rw [i32_le]; rw [i32_lt] at c0; omega
      rw [if_neg c0, b2_tri]
      by_cases c1 : b < nI m
      · obtain ⟨k, hk, rfl⟩ := idx_of (by omega) ⟨c0', c1⟩
        rw [if_pos c1, if_pos (decide_eq_true ⟨c0', c1⟩), ix_lm, ix_la, nI_add, rA_n (by omega) (by decide), hL.r13 hr (by rw [em, nI_clamp (by omega)]; exact hk)]
        refine ⟨_, ?_, rfl⟩
        have : fX5_sectionOf 4 (nI r) (nI k) X = some (bP X 4 13 (r * 6 + k), X) := by
          unfold fX5_sectionOf
          rw [gd_t, nI_clamp (by omega), nI_clamp (by omega)]
          rw [nI_clamp (by omega), nI_clamp (by omega)]
          exact ⟨rfl, rfl, ok, by omega, by omega⟩
        rw [ca_s this]
        rfl
      · rw [if_neg c1, if_neg (fun e => c1 (of_decide_eq_true e).2)]
        exact ⟨_, rfl, rfl⟩
  · rw [it_t (bz_f c), it_t (bz_f c)]
    exact ⟨_, rfl, rfl⟩
end S2
