/-! now, feed, end; what was told -/
section S3
variable {X : X_}
theorem out_bo {P V : m_V} : s_trainsOut P V = bo (fun t => decide (V 4 t = -1)) (ct P 6) := rfl
theorem e_now1 {P V : m_V} {Y : X_} (hL : RLa P (Y.1 220)) (wL : wfL P) (hS : RS P V (Y.1 220)) (hN : wfN P V) {α : Type} {F : Int32 → Int32 → RM α} :
    (lz2 (fun L12 x1 x2 => (rA 220 469 0 fun v3 => (it (v3 ≤ x2) (lz2 (fun L52 x4 x5 => (rA 220 469 6 fun v6 => (it (v6 ≤ x5) (F x1 x4) (rA 220 469 (271 + x5) fun v12 => (it (v12 = 0) (L52 (x4 ||| (1 <<< (x5 &&& 31))) (x5 + 1)) (L52 (x4 ||| 0) (x5 + 1))))))) FU 0 0) (ca (fX12_showsFull x2) fun v13 => (it (v13 = 0) (L12 (x1 ||| 0) (x2 + 1)) (L12 (x1 ||| (1 <<< (x2 &&& 31))) (x2 + 1))))))) FU 0 0) Y = F (s_showing P V) (s_trainsOut P V) Y := by
  have w := wL.ok
  have h0 := w.c0.2
  have h6 := w.c6.2
  have e1 : s_showing P V = bo (fun k => bt (s_showing P V) k) (ct P 0) := by
    refine b_ext (fun i hi => ?_)
    rw [b_bo _ _ (by omega) i hi]
    by_cases c : i < ct P 0
    · simp [c]
    · simp only [c, decide_false, Bool.false_and]
      unfold s_showing
      rw [b_or, b_and, hN.1.2.2.1 i (by omega) hi]
      have : bt (s_occupied P V) i = false := by
        rw [Bool.eq_false_iff]
        intro q
        obtain ⟨t, ht, e⟩ := (occ_bit w hN.2.2 hi).mp q
        rcases hN.2.2 t ht with z | ⟨d, z, hd⟩
        · rw [z] at e; exact absurd e.symm (nI_m1 (by omega))
        · rw [z] at e
          have := (nI_eq (by omega) (by omega)).mp e
          omega
      rw [this]
      rfl
  rw [out_bo]
  have goal := lz2_bo (α := α) (X := Y) (n := ct P 0) (B := fun L12 x1 x2 => (rA 220 469 0 fun v3 => (it (v3 ≤ x2) (lz2 (fun L52 x4 x5 => (rA 220 469 6 fun v6 => (it (v6 ≤ x5) (F x1 x4) (rA 220 469 (271 + x5) fun v12 => (it (v12 = 0) (L52 (x4 ||| (1 <<< (x5 &&& 31))) (x5 + 1)) (L52 (x4 ||| 0) (x5 + 1))))))) FU 0 0) (ca (fX12_showsFull x2) fun v13 => (it (v13 = 0) (L12 (x1 ||| 0) (x2 + 1)) (L12 (x1 ||| (1 <<< (x2 &&& 31))) (x2 + 1))))))) (E := fun x => F x (bo (fun t => decide (V 4 t = -1)) (ct P 6)) Y) (fun k => bt (s_showing P V) k) (by omega) ?_ ?_
  · rw [← e1] at goal
    exact goal
  · intro i a L hi
    rw [rA_l (by decide) (by decide), hL.n0 w, it_f (nI_ge hi (by omega)), ca_s (e_showsFull hL w hS hN hi), it_e, nI_1, if_b0]
    cases bt (s_showing P V) i <;> simp
  · intro a L
    rw [rA_l (by decide) (by decide), hL.n0 w, it_t (nI_le (Nat.le_refl _) (by omega))]
    refine lz2_bo (E := fun x => F a x Y) _ (by omega) (fun i x L hi => ?_) (fun x L => ?_)
    · have hz : (V 4 i + 1 = 0) ↔ V 4 i = -1 := by
        constructor
        · intro e
          have := congrArg (· - 1) e
          simpa using this
        · intro e; rw [e]; rfl
      rw [rA_l (by decide) (by decide), hL.n6 w, it_f (nI_ge hi (by omega)), ix_la, rA_n (by omega) (by decide), hS.at hi, it_e, nI_1, if_iff hz]
      simp
    · rw [rA_l (by decide) (by decide), hL.n6 w, it_t (nI_le (Nat.le_refl _) (by omega))]
theorem sim_now (a : Int32) : Sim (fX11_now a) (fX12_now a) := by
  refine sim_rd (fun X hX => ?_)
  have w := hX.w
  have ok := w.ok
  have hL := hX.L
  have hS := hX.S
  have key := e_now1 (Y := sI X 218 0 0) hL w.l hS w.v (F := fun x1 x4 => (it (a = 0) (rA 220 469 226 fun v7 => (re v7)) (it (a = 1) (re x1) (it (a = 2) (ca fX12_busy fun v8 => (re v8)) (it (a = 3) (rA 220 469 228 fun v9 => (re v9)) (it (a = 4) (re x4) (it (a = 5) (rA 220 469 281 fun v10 => (re v10)) (it (a = 6) (rA 220 469 227 fun v11 => (re v11)) (re (-1))))))))))
  rw [key]
  unfold fX11_now
  by_cases b0 : a = 0
  · rw [it_t b0, it_t b0, gI_e, V_0, rA_l (by decide) (by decide), hS.tick]
    exact ⟨_, rfl, rfl⟩
  · rw [it_f b0, it_f b0]
    by_cases b1 : a = 1
    · rw [it_t b1, it_t b1, ca_s (k_showing hX)]
      exact ⟨_, rfl, rfl⟩
    · rw [it_f b1, it_f b1]
      by_cases b2' : a = 2
      · rw [it_t b2', it_t b2', ca_s (k_notFree hX), ca_s (e_busy hL ok hS)]
        exact ⟨_, rfl, rfl⟩
      · rw [it_f b2', it_f b2']
        by_cases b3 : a = 3
        · rw [it_t b3, it_t b3, gI_e, V_0, rA_l (by decide) (by decide), hS.rev]
          exact ⟨_, rfl, rfl⟩
        · rw [it_f b3, it_f b3]
          by_cases b4 : a = 4
          · rw [it_t b4, it_t b4, ca_s (k_trainsOut hX)]
            exact ⟨_, rfl, rfl⟩
          · rw [it_f b4, it_f b4]
            by_cases b5 : a = 5
            · rw [it_t b5, it_t b5, gI_e, V_0, rA_l (by decide) (by decide), hS.cr]
              exact ⟨_, rfl, rfl⟩
            · rw [it_f b5, it_f b5]
              by_cases b6 : a = 6
              · rw [it_t b6, it_t b6, gI_e, V_0, rA_l (by decide) (by decide), hS.met]
                exact ⟨_, rfl, rfl⟩
              · rw [it_f b6, it_f b6]
                exact ⟨_, rfl, rfl⟩
/-- the k-th of a row that was told -/
theorem row_told {n m : Int32} {most N : Nat} {f g : Nat → Int32} (h : I_r n m most f g) (hN : most < 2 ^ 31) (a : Int32) : (0 ≤ a ∧ a ≤ m - 1) ↔ (0 ≤ a ∧ a < n) := by
  rcases h with ⟨rfl, rfl⟩ | ⟨k, hk, rfl, rfl, -⟩
  · constructor
    · intro ⟨h1, h2⟩
      rw [i32_le] at h1 h2
      have e0 : (0 : Int32).toInt = 0 := rfl
      have e2 : (-1 - 1 : Int32).toInt = -2 := by decide +kernel
      omega
    · intro ⟨h1, h2⟩
      rw [i32_le] at h1
      rw [i32_lt] at h2
      omega
  · exact isIn_n a (by omega)
theorem sim_row {n m : Int32} {a : Int32} {most N M c d e k1 k2 : Nat} {X Y : X_} (h : I_r (X.1 c k1) (Y.1 218 k2) most (X.1 d) (Y.1 e)) (h1 : most ≤ N) (h2 : most ≤ M) (hN : N < 2 ^ 31) (hM : M < 2 ^ 31) :
    ∃ v, (it (a < 0) (re (-1)) (gI c k1 fun v1 => (it (v1 ≤ a) (re (-1)) (rA d N a fun v2 => (re v2))))) X = some (v, X) ∧ (gI 218 k2 fun v1 => (ca (fX12_isIn a 0 (v1 - 1)) fun v2 => (it (v2 = 0) (re (-1)) (rA e M a fun v3 => (re v3))))) Y = some (v, Y) := by
  have hr := row_told (N := N) h (by omega) a
  rw [gI_e, ca_s (e_isIn _ _ _)]
  by_cases c1 : 0 ≤ a ∧ a < X.1 c k1
  · rw [it_f (bz_t (hr.mpr c1)), it_f (fun q => by have := c1.1; rw [i32_le] at this; rw [i32_lt] at q; omega), gI_e, it_f (fun q => by have := c1.2; rw [i32_lt] at this; rw [i32_le] at q; omega)]
    rcases h with ⟨e0, -⟩ | ⟨k, hk, e0, -, hf⟩
    · rw [e0] at c1
      have q1 := c1.1
      have q2 := c1.2
      rw [i32_le] at q1
      rw [i32_lt] at q2
      omega
    · rw [e0] at c1
      obtain ⟨i, hi, rfl⟩ := idx_of (by omega) c1
      rw [rA_n (by omega) hN, rA_n (by omega) hM, hf i hi]
      exact ⟨_, rfl, rfl⟩
  · rw [it_t (bz_f (fun q => c1 (hr.mp q)))]
    by_cases c2 : a < 0
    · rw [it_t c2]
      exact ⟨_, rfl, rfl⟩
    · rw [it_f c2, gI_e, it_t]
      · exact ⟨_, rfl, rfl⟩
      · apply Classical.byContradiction
        intro q
        refine c1 ⟨?_, ?_⟩
        · rw [i32_le]; rw [i32_lt] at c2; omega
        · rw [i32_lt]; rw [i32_le] at q; omega
theorem sim_pullsAt (a : Int32) : Sim (fX11_pullsAt a) (fX12_pullsAt a) := by
  refine sim_rd (fun X hX => ?_)
  have h := hX.c.1
  obtain ⟨v, h1, h2⟩ := sim_row (n := 0) (m := 0) (a := a) (X := X) (Y := sI X 218 0 0) (c := 141) (k1 := 1) (k2 := 25) (d := 142) (e := 227) (N := 16) (M := 16) (by rw [sI_ne (by decide), sI_row (by decide)]; exact h) (by decide) (by decide) (by decide) (by decide)
  refine ⟨v, ?_, h2⟩
  unfold fX11_pullsAt
  rw [ca_s (show fX1_pullAt a X = some (v, X) from h1)]
  rfl
theorem sim_pathAt (a : Int32) : Sim (fX11_pathAt a) (fX12_pathAt a) := by
  refine sim_rd (fun X hX => ?_)
  have h := hX.c.2
  obtain ⟨v, h1, h2⟩ := sim_row (n := 0) (m := 0) (a := a) (X := X) (Y := sI X 218 0 0) (c := 141) (k1 := 3) (k2 := 31) (d := 143) (e := 230) (N := 10) (M := 12) (by rw [sI_ne (by decide), sI_row (by decide)]; exact h) (by decide) (by decide) (by decide) (by decide)
  refine ⟨v, ?_, h2⟩
  unfold fX11_pathAt
  rw [ca_s (show fX1_stepAt a X = some (v, X) from h1)]
  rfl
theorem sim_fitsAt (a : Int32) : Sim (fX11_fitsAt a) (fX12_fitsAt a) := by
  refine sim_rd (fun X hX => ?_)
  have h := hX.f.1
  obtain ⟨v, h1, h2⟩ := sim_row (n := 0) (m := 0) (a := a) (X := X) (Y := sI X 218 0 0) (c := 146) (k1 := 1) (k2 := 33) (d := 147) (e := 231) (N := 25) (M := 25) (by rw [sI_ne (by decide), sI_row (by decide)]; exact h) (by decide) (by decide) (by decide) (by decide)
  refine ⟨v, ?_, h2⟩
  unfold fX11_fitsAt
  rw [ca_s (show fX2_failureAt a X = some (v, X) from h1)]
  rfl
theorem sim_byteAt (a : Int32) : Sim (fX11_byteAt a) (fX12_byteAt a) := by
  refine sim_rd (fun X hX => ?_)
  obtain ⟨n, hn, e1, e2, hf⟩ := hX.g
  obtain ⟨v, h1, h2⟩ := sim_row (n := 0) (m := 0) (a := a) (X := X) (Y := sI X 218 0 0) (c := 148) (k1 := 1) (k2 := 36) (d := 149) (e := 232) (N := 26) (M := 40) (most := 26) (by rw [sI_ne (by decide), sI_row (by decide)]; exact Or.inr ⟨n, hn, e1, e2, hf⟩) (by decide) (by decide) (by decide) (by decide)
  refine ⟨v, ?_, h2⟩
  unfold fX11_byteAt
  rw [ca_s (show fX9_at a X = some (v, X) from h1)]
  rfl
theorem sim_ask : Sim fX11_ask fX12_ask := by
  refine sim_rd (fun X hX => ?_)
  refine ⟨X.1 146 2, rfl, ?_⟩
  rw [gI_e, sI_ne (by decide)]
  rcases hX.f.2 with ⟨e1, e2⟩ | ⟨e1, e2⟩
  · rw [e1, it_t (by decide), e2]; rfl
  · rw [it_f (fun q => by rw [i32_lt] at e1; rw [i32_le] at q; omega), gI_e, sI_ne (by decide), e2]; rfl
theorem sim_told (a : Int32) : Sim (fX11_told a) (fX12_told a) := by
  refine sim_rd (fun X hX => ?_)
  obtain ⟨e0, h⟩ := hX.b
  unfold fX11_told fX0_tellJudgement
  rw [gI_e, sI_ne (by decide), ← e0]
  rcases h with e | ⟨e, a0, a1, a2, a3⟩
  · rw [e, it_t rfl]
    refine ⟨-1, ?_, rfl⟩
    rw [ca_re, gI_e, e, it_t rfl]
    rfl
  · rw [e, it_f (by decide), ca_s (e_isIn _ _ _)]
    by_cases c : 0 ≤ a ∧ a ≤ 3
    · have c' : a < 4 := by
        have h2 := c.2
        rw [i32_le] at h2
        rw [i32_lt]
        have e3 : (3 : Int32).toInt = 3 := rfl
        have e4 : (4 : Int32).toInt = 4 := rfl
        omega
      obtain ⟨k, hk, rfl⟩ := idx_of (n := 4) (by decide) ⟨c.1, c'⟩
      rw [it_f (bz_t c), rA_n hk (by decide), sI_row (by decide)]
      refine ⟨X.1 233 k, ?_, rfl⟩
      rcases (show k = 0 ∨ k = 1 ∨ k = 2 ∨ k = 3 by omega) with rfl | rfl | rfl | rfl
      · rw [ca_re, gI_e, e, it_f (by decide), it_t (show nI 0 = 0 from rfl), ← a0]; rfl
      · rw [ca_re, gI_e, e, it_f (by decide), it_f (show ¬ nI 1 = 0 by decide), it_t (show nI 1 = 1 from rfl), ← a1]; rfl
      · rw [ca_re, gI_e, e, it_f (by decide), it_f (show ¬ nI 2 = 0 by decide), it_f (show ¬ nI 2 = 1 by decide), it_t (show nI 2 = 2 from rfl), ← a2]; rfl
      · rw [ca_re, gI_e, e, it_f (by decide), it_f (show ¬ nI 3 = 0 by decide), it_f (show ¬ nI 3 = 1 by decide), it_f (show ¬ nI 3 = 2 by decide), it_t (show nI 3 = 3 from rfl), ← a3]; rfl
    · rw [it_t (bz_f c)]
      refine ⟨-1, ?_, rfl⟩
      have n0 : ¬ a = 0 := fun q => c (by subst q; decide)
      have n1 : ¬ a = 1 := fun q => c (by subst q; decide)
      have n2 : ¬ a = 2 := fun q => c (by subst q; decide)
      have n3 : ¬ a = 3 := fun q => c (by subst q; decide)
      rw [ca_re, gI_e, e, it_f (by decide), it_f n0, it_f n1, it_f n2, it_f n3]
      rfl
end S3
