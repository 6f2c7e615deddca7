/-! feed, end -/
section FE
variable {X : X_}
theorem bp_b (x : Int32) : x.toInt8.toInt32 &&& 255 = x &&& 255 := by
  apply Int32.toBitVec_inj.mp
  rw [Int32.toBitVec_and, Int32.toBitVec_and, Int8.toBitVec_toInt32, Int32.toBitVec_toInt8]
  apply BitVec.eq_of_getLsbD_eq
  intro i hi
  rw [BitVec.getLsbD_and, BitVec.getLsbD_and]
  have hm : ∀ i < 32, 8 ≤ i → (255 : Int32).toBitVec.getLsbD i = false := by decide
  rcases Nat.lt_or_ge i 8 with z | z
  · rw [BitVec.getLsbD_signExtend, BitVec.getLsbD_signExtend, if_pos z, if_pos hi]
    simp only [z, hi, decide_true, Bool.true_and]
  · rw [hm i hi z]; simp
theorem and255 (x : Int32) : ∃ b, b < 256 ∧ x &&& 255 = nI b := by
  refine ⟨x.toBitVec.toNat % 256, Nat.mod_lt _ (by decide), ?_⟩
  apply Int32.toBitVec_inj.mp
  apply BitVec.eq_of_toNat_eq
  show (x.toBitVec &&& 255#32).toNat = (BitVec.ofNat 32 (x.toBitVec.toNat % 256)).toNat
  have h1 : x.toBitVec.toNat &&& 255 = x.toBitVec.toNat % 256 := Nat.and_two_pow_sub_one_eq_mod _ 8
  rw [BitVec.toNat_and, show (255#32 : BitVec 32).toNat = 255 from rfl, h1, BitVec.toNat_ofNat]
  have := Nat.mod_lt x.toBitVec.toNat (show 0 < 256 by decide)
  omega
theorem us255 (x : Int32) : ∀ s ∈ [24, 16, 8, 0], us x (nI s) &&& 255 = (x >>> (nI s &&& 31)) &&& 255 := by
  intro s hs
  have hs32 : s + 8 ≤ 32 := by
    simp at hs
    omega
  refine b_ext (fun i hi => ?_)
  have h255 : ∀ i, i < 32 → bt 255 i = decide (i < 8) := by decide +kernel
  have hu : ∀ n, n < 32 → (((nI n).toUInt32 &&& Int32.toUInt32 31).toBitVec % 32).toNat = n := by decide +kernel
  have e : bt (us x (nI s)) i = bt x (s + i) := by
    show (x.toUInt32 >>> ((nI s).toUInt32 &&& Int32.toUInt32 31)).toBitVec.getLsbD i = x.toUInt32.toBitVec.getLsbD (s + i)
    rw [UInt32.toBitVec_shiftRight]
    show (x.toUInt32.toBitVec >>> (((nI s).toUInt32 &&& Int32.toUInt32 31).toBitVec % 32).toNat).getLsbD i = _
    rw [hu s (by omega), BitVec.getLsbD_ushiftRight]
  rw [b_and, b_and, h255 i hi, e, b_sshr s (by omega) x hi]
  by_cases c : i < 8
  · rw [if_pos (by omega)]
  · simp [c]
def rel8 (f g : Nat → Int32) (n : Nat) : Prop := ∀ k, k < n → ∃ b, b < 256 ∧ f k = nI b ∧ g k &&& 255 = nI b
def A4 (f : Nat → Int32) (z : Nat) (x : Int32) : Nat → Int32 := upS (upS (upS (upS f z (us x 24 &&& 255)) (z + 1) (us x 16 &&& 255)) (z + 2) (us x 8 &&& 255)) (z + 3) (us x 0 &&& 255)
def by8 (x : Int32) (s : Int32) : Int32 := ((x >>> (s &&& 31)).toInt8.toInt32).toInt8.toInt32
def B4 (f : Nat → Int32) (z : Nat) (x : Int32) : Nat → Int32 := upS (upS (upS (upS f z (by8 x 24)) (z + 1) (by8 x 16)) (z + 2) (by8 x 8)) (z + 3) (by8 x 0)
theorem by8_and (x : Int32) (s : Nat) (hs : s ∈ [24, 16, 8, 0]) : by8 x (nI s) &&& 255 = us x (nI s) &&& 255 := by
  unfold by8
  rw [bp_b, bp_b, us255 x s hs]
theorem rel8_4 {f g : Nat → Int32} {z : Nat} (h : rel8 f g z) (x : Int32) : rel8 (A4 f z x) (B4 g z x) (z + 4) := by
  intro k hk
  unfold A4 B4
  by_cases c3 : k = z + 3
  · subst c3
    rw [upS_eq, upS_eq]
    obtain ⟨b, hb, e⟩ := and255 (us x 0)
    exact ⟨b, hb, e, (by8_and x 0 (by simp)).trans e⟩
  · rw [upS_ne c3, upS_ne c3]
    by_cases c2 : k = z + 2
    · subst c2
      rw [upS_eq, upS_eq]
      obtain ⟨b, hb, e⟩ := and255 (us x 8)
      exact ⟨b, hb, e, (by8_and x 8 (by simp)).trans e⟩
    · rw [upS_ne c2, upS_ne c2]
      by_cases c1 : k = z + 1
      · subst c1
        rw [upS_eq, upS_eq]
        obtain ⟨b, hb, e⟩ := and255 (us x 16)
        exact ⟨b, hb, e, (by8_and x 16 (by simp)).trans e⟩
      · rw [upS_ne c1, upS_ne c1]
        by_cases c0 : k = z
        · subst c0
          rw [upS_eq, upS_eq]
          obtain ⟨b, hb, e⟩ := and255 (us x 24)
          exact ⟨b, hb, e, (by8_and x 24 (by simp)).trans e⟩
        · rw [upS_ne c0, upS_ne c0]
          exact h k (by omega)
theorem k_add {z : Nat} (x : Int32) (h1 : X.1 1 1 = nI z) (hz : z + 4 ≤ 1460) : ∃ X', fX10_addNumber x X = some ((), X') ∧ X'.1 1 1 = nI (z + 4) ∧ X'.1 2 = A4 (X.1 2) z x ∧ (∀ a, ¬ a = 1 → ¬ a = 2 → X'.1 a = X.1 a) ∧ X'.2 = X.2 := by
  have e1 : bT X 0 1 = nI z := h1
  have ez : (bT X 0 1).toNatClampNeg = z := by rw [e1, nI_clamp (by omega)]
  have hr : fX10_addNumber x X = some ((), bk X 1 3 (t_add4 (bT X) z x) (bTJ X)) := by
    unfold fX10_addNumber
    rw [gd_t (by rw [ez]; exact ⟨e1, hz⟩), ez]
  refine ⟨_, hr, ?_, ?_, fun a a1 a2 => ?_, ?_⟩
  · rw [bk_in0 (by decide)]
    unfold t_add4
    rw [u2_eq]
  · rw [show (2 : Nat) = 1 + 1 from rfl, bk_in (by decide)]
    funext k
    unfold t_add4 A4
    simp only [u2, upS]
    simp (config := { decide := true }) only [true_and, false_and, if_false, Nat.add_zero]
    rfl
  · by_cases c : a = 3
    · subst c
      rw [show (3 : Nat) = 1 + 2 from rfl, bk_in (by decide)]
      funext k
      unfold t_add4
      rw [u2_ne (by omega), u2_ne (by omega), u2_ne (by omega), u2_ne (by omega), u2_ne (by omega), u2_ne (by omega), u2_ne (by omega), u2_ne (by omega)]
      rfl
    · exact bk_row (by omega)
  · refine Prod.ext (funext fun a => ?_) rfl
    by_cases c : 1 ≤ a ∧ a < 1 + 3
    · obtain ⟨j, rfl⟩ : ∃ j, a = 1 + j := ⟨a - 1, by omega⟩
      rw [bk_inJ (by omega)]
      funext k
      exact if_pos (show j < 3 by omega)
    · exact bk_rowJ c
theorem e_four {z : Nat} (x : Int32) (h1 : X.1 218 2 = nI z) (hz : z + 4 ≤ 1460) : fX12_four x X = some ((), sI (setR X 219 (B4 (X.1 219) z x)) 218 2 (nI (z + 4))) := by
  have step : ∀ (Y : X_) (f : Nat → Int32) (m : Nat) (n : Nat) (s : Int32) (L : Int32 → RM Unit), ¬ s < 0 → m < 1460 → (it (s < 0) (re ()) (gI 218 2 fun v2 => (wA 219 1460 v2 (((x >>> (s &&& 31)).toInt8.toInt32).toInt8.toInt32) (gI 218 2 fun v3 => (pI 218 2 (v3 + 1) (L (s + (-8)))))))) (sI (setR Y 219 f) 218 2 (nI m)) = L (s + -8) (sI (setR Y 219 (upS f m (by8 x s))) 218 2 (nI (m + 1))) := by
    intro Y f m n s L hs hm
    rw [it_f hs, gI_e, sI_eq, wA_n hm (by decide), gI_e, pI_e]
    have e1 : sI (sI (setR Y 219 f) 218 2 (nI m)) 219 m (by8 x s) = sI (setR Y 219 (upS f m (by8 x s))) 218 2 (nI m) := by
      rw [setR_s' (by decide), setR_s, ← setR_s' (by decide)]
    show L (s + -8) (sI (sI (sI (setR Y 219 f) 218 2 (nI m)) 219 m (by8 x s)) 218 2 ((sI (sI (setR Y 219 f) 218 2 (nI m)) 219 m (by8 x s)).1 218 2 + 1)) = _
    rw [e1, sI_eq, sI_sI, nI_1]
  have h0 : X = sI (setR X 219 (X.1 219)) 218 2 (nI z) := by
    rw [setR_self rfl]
    refine Prod.ext (funext fun a => funext fun k => ?_) rfl
    by_cases c : a = 218 ∧ k = 2
    · obtain ⟨rfl, rfl⟩ := c
      rw [sI_eq, h1]
    · rw [sI_ne c]
  unfold fX12_four
  rw [FU_eq]
  conv => lhs; rw [h0]
  rw [show (5000 : Nat) = 4999 + 1 from rfl, lz1_s, step X _ z 0 24 _ (by decide) (by omega), show (4999 : Nat) = 4998 + 1 from rfl, lz1_s, step X _ (z + 1) 0 (24 + -8) _ (by decide) (by omega), show (4998 : Nat) = 4997 + 1 from rfl, lz1_s, step X _ (z + 2) 0 (24 + -8 + -8) _ (by decide) (by omega), show (4997 : Nat) = 4996 + 1 from rfl, lz1_s, step X _ (z + 3) 0 (24 + -8 + -8 + -8) _ (by decide) (by omega), show (4996 : Nat) = 4995 + 1 from rfl, lz1_s, it_t (show (24 + -8 + -8 + -8 + -8 : Int32) < 0 by decide)]
  rfl
theorem e_four' {z : Nat} (x : Int32) (h1 : X.1 218 2 = nI z) (hz : z + 4 ≤ 1460) : ∃ X', fX12_four x X = some ((), X') ∧ X'.1 218 2 = nI (z + 4) ∧ X'.1 219 = B4 (X.1 219) z x ∧ (∀ a, ¬ a = 218 → ¬ a = 219 → X'.1 a = X.1 a) ∧ (∀ k, ¬ k = 2 → X'.1 218 k = X.1 218 k) ∧ X'.2 = X.2 :=
  ⟨_, e_four x h1 hz, sI_eq, by rw [sI_row (by decide), setR_eq], fun a a1 a2 => by rw [sI_row a1, setR_ne a2], fun k hk => by rw [sI_ne (by omega), setR_ne (by decide)], rfl⟩
theorem sim_feed (a b c d e : Int32) : Sim (fX11_feed a b c d e) (fX12_feed a b c d e) := fun X hX => by
  obtain ⟨n, hn, e1, e2, hr⟩ := hX.t
  have hr : rel8 (X.1 2) (X.1 219) n := hr
  unfold fX11_feed fX12_feed
  rw [gI_e, e1, ix_al]
  by_cases cc : nI (n + 20) ≤ 1460
  · have hc : n + 20 ≤ 1460 := by rwa [cR_le (by omega) (by decide)] at cc
    obtain ⟨X1, r1, a1, b1, c1, d1⟩ := k_add (X := X) a e1 (by omega)
    obtain ⟨X2, r2, a2, b2, c2, d2⟩ := k_add (X := X1) b a1 (by omega)
    obtain ⟨X3, r3, a3, b3, c3, d3⟩ := k_add (X := X2) c a2 (by omega)
    obtain ⟨X4, r4, a4, b4, c4, d4⟩ := k_add (X := X3) d a3 (by omega)
    obtain ⟨X5, r5, a5, b5, c5, d5⟩ := k_add (X := X4) e a4 (by omega)
    have f5 : ∀ q, ¬ q = 1 → ¬ q = 2 → X5.1 q = X.1 q := fun q q1 q2 => by rw [c5 q q1 q2, c4 q q1 q2, c3 q q1 q2, c2 q q1 q2, c1 q q1 q2]
    have g5 : X5.2 = X.2 := by rw [d5, d4, d3, d2, d1]
    have h218 : (sI X5 218 0 0).1 218 2 = nI n := by rw [sI_ne (by decide), f5 218 (by decide) (by decide), e2]
    have h219 : (sI X5 218 0 0).1 219 = X.1 219 := by rw [sI_row (by decide), f5 219 (by decide) (by decide)]
    obtain ⟨Y1, s1, p1, q1, t1, u1, v1⟩ := e_four' (X := sI X5 218 0 0) a h218 (by omega)
    obtain ⟨Y2, s2, p2, q2, t2, u2, v2⟩ := e_four' (X := Y1) b p1 (by omega)
    obtain ⟨Y3, s3, p3, q3, t3, u3, v3⟩ := e_four' (X := Y2) c p2 (by omega)
    obtain ⟨Y4, s4, p4, q4, t4, u4, v4⟩ := e_four' (X := Y3) d p3 (by omega)
    obtain ⟨Y5, s5, p5, q5, t5, u5, v5⟩ := e_four' (X := Y4) e p4 (by omega)
    have w5 : ∀ q, ¬ q = 218 → ¬ q = 219 → Y5.1 q = X5.1 q := fun q z1 z2 => by rw [t5 q z1 z2, t4 q z1 z2, t3 q z1 z2, t2 q z1 z2, t1 q z1 z2, sI_row z1]
    have x5 : ∀ k, ¬ k = 2 → ¬ k = 0 → Y5.1 218 k = X.1 218 k := fun k z1 z2 => by rw [u5 k z1, u4 k z1, u3 k z1, u2 k z1, u1 k z1, sI_ne (by omega), f5 218 (by decide) (by decide)]
    have y5 : Y5.2 = X.2 := by rw [v5, v4, v3, v2, v1]; exact g5
    have R : ∀ q, ¬ q = 1 → ¬ q = 2 → ¬ q = 218 → ¬ q = 219 → Y5.1 q = X.1 q := fun q z1 z2 z3 z4 => by rw [w5 q z3 z4, f5 q z1 z2]
    have J : Y5.2.1 = X.2.1 := by rw [y5]
    refine ⟨nI (n + 20), X5, Y5, ?_, ?_, ?_⟩
    · rw [it_t cc, ca_s r1, ca_s r2, ca_s r3, ca_s r4, ca_s r5, gI_e, a5]
      rfl
    · rw [pI_e, gI_e, h218, ix_al, it_t cc, ca_s s1, ca_s s2, ca_s s3, ca_s s4, ca_s s5, gI_e, p5]
      rfl
    · have ht : I_t Y5 := by
        refine ⟨n + 20, hc, by rw [w5 1 (by decide) (by decide)]; exact a5, p5, ?_⟩
        have r1 := rel8_4 hr a
        have r2 := rel8_4 r1 b
        have r3 := rel8_4 r2 c
        have r4 := rel8_4 r3 d
        have r5 := rel8_4 r4 e
        rw [w5 2 (by decide) (by decide), b5, b4, b3, b2, b1, q5, q4, q3, q2, q1, h219]
        exact r5
      refine ⟨?_, ?_, ?_, ?_, ?_, ?_, ?_, ?_, ?_, ?_⟩
      · exact ht
      · exact hX.k.of (by rw [J]) (by rw [J])
      · exact hX.w.of (fun a ha => by exact R _ (by omega) (by omega) (by omega) (by omega)) (fun a ha => by rw [J])
      · exact hX.h.of (fun a ha => by exact R _ (by omega) (by omega) (by omega) (by omega)) (by exact x5 _ (by decide) (by decide)) (by rw [y5])
      · exact hX.i.of (fun a ha => by exact R _ (by omega) (by omega) (by omega) (by omega)) (fun a ha => by rw [J])
      · exact hX.b.of (by exact R _ (by omega) (by omega) (by omega) (by omega)) (by exact x5 _ (by decide) (by decide)) (by exact R _ (by omega) (by omega) (by omega) (by omega))
      · exact hX.c.of (fun a ha => by exact R _ (by omega) (by omega) (by omega) (by omega)) (by exact x5 _ (by decide) (by decide)) (by exact x5 _ (by decide) (by decide))
      · exact hX.f.of (fun a ha => by exact R _ (by omega) (by omega) (by omega) (by omega)) (by exact x5 _ (by decide) (by decide)) (by exact x5 _ (by decide) (by decide))
      · exact hX.g.of (fun a ha => by exact R _ (by omega) (by omega) (by omega) (by omega)) (by exact x5 _ (by decide) (by decide))
      · exact hX.o.of (by exact R _ (by omega) (by omega) (by omega) (by omega)) (by exact x5 _ (by decide) (by decide)) (by exact x5 _ (by decide) (by decide)) (by exact x5 _ (by decide) (by decide))
  · refine ⟨-1, X, sI X 218 0 0, by rw [it_f cc]; rfl, ?_, hX.thrown⟩
    rw [pI_e, gI_e, sI_ne (by decide), e2, ix_al, it_f cc]
    rfl
theorem sim_end (a : Int32) : Sim (fX11_end a) (fX12_end a) := fun X hX => by
  obtain ⟨n, hn, e1, e2, hr⟩ := hX.t
  unfold fX11_end fX12_end
  by_cases c : a < 0
  · exact ⟨0, X, sI X 218 0 0, by rw [it_t c]; rfl, by rw [pI_e, it_t c]; rfl, hX.thrown⟩
  · by_cases c2 : a ≤ nI n
    · obtain ⟨k, hk, rfl⟩ := nI_of c
      have hkn : k ≤ n := (nI_leI hk (by omega)).mp c2
      refine ⟨1, sI X 1 1 (nI k), sI (sI (sI X 1 1 (nI k)) 218 0 0) 218 2 (nI k), ?_, ?_, ?_⟩
      · rw [it_f c, gI_e, e1, it_t c2]; rfl
      · rw [pI_e, it_f c, gI_e, sI_ne (by decide), sI_ne (by decide), e2, it_t c2]; rfl
      · have hs : sameC X X := ⟨fun _ _ => rfl, fun _ _ => rfl, rfl⟩
        have R : ∀ q, ¬ q = 1 → ¬ q = 218 → (sI (sI (sI X 1 1 (nI k)) 218 0 0) 218 2 (nI k)).1 q = X.1 q := fun q z1 z2 => by rw [sI_row z2, sI_row z2, sI_row z1]
        have ht : I_t (sI (sI (sI X 1 1 (nI k)) 218 0 0) 218 2 (nI k)) := by
          refine ⟨k, by omega, ?_, sI_eq, fun j hj => ?_⟩
          · rw [sI_ne (by decide), sI_ne (by decide), sI_eq]
          · rw [R 2 (by decide) (by decide), R 219 (by decide) (by decide)]
            exact hr j (by omega)
        refine ⟨?_, ?_, ?_, ?_, ?_, ?_, ?_, ?_, ?_, ?_⟩
        · exact ht
        · exact hX.k.of (by rfl) (by rfl)
        · exact hX.w.of (fun a ha => by exact R _ (by omega) (by omega)) (fun a ha => by rfl)
        · exact hX.h.of (fun a ha => by exact R _ (by omega) (by omega)) (by rw [sI_ne (by decide), sI_ne (by decide), sI_ne (by decide)]) rfl
        · exact hX.i.of (fun a ha => by exact R _ (by omega) (by omega)) (fun a ha => by rfl)
        · exact hX.b.of (by exact R _ (by omega) (by omega)) (by rw [sI_ne (by decide), sI_ne (by decide), sI_ne (by decide)]) (by exact R _ (by omega) (by omega))
        · exact hX.c.of (fun a ha => by exact R _ (by omega) (by omega)) (by rw [sI_ne (by decide), sI_ne (by decide), sI_ne (by decide)]) (by rw [sI_ne (by decide), sI_ne (by decide), sI_ne (by decide)])
        · exact hX.f.of (fun a ha => by exact R _ (by omega) (by omega)) (by rw [sI_ne (by decide), sI_ne (by decide), sI_ne (by decide)]) (by rw [sI_ne (by decide), sI_ne (by decide), sI_ne (by decide)])
        · exact hX.g.of (fun a ha => by exact R _ (by omega) (by omega)) (by rw [sI_ne (by decide), sI_ne (by decide), sI_ne (by decide)])
        · exact hX.o.of (by exact R _ (by omega) (by omega)) (by rw [sI_ne (by decide), sI_ne (by decide), sI_ne (by decide)]) (by rw [sI_ne (by decide), sI_ne (by decide), sI_ne (by decide)]) (by rw [sI_ne (by decide), sI_ne (by decide), sI_ne (by decide)])
    · exact ⟨0, X, sI X 218 0 0, by rw [it_f c, gI_e, e1, it_f c2]; rfl, by rw [pI_e, it_f c, gI_e, sI_ne (by decide), e2, it_f c2]; rfl, hX.thrown⟩
end FE
