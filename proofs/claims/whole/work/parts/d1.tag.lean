/-! tag -/
section TH
variable {X Y Xb Yb : X_} {n t : Nat}
theorem nameOf_e {s k : Nat} {a : Int32} (ha : a = nI s) (hs : s < 8) (hk : k < 12) : fX5_nameOf 4 a (nI k) X = some (X.2.1 6 (s * 12 + k), X) := by
  subst ha
  unfold fX5_nameOf
  rw [gd_t ⟨by rw [nI_clamp (by omega)], by rw [nI_clamp (by omega)], by rw [nI_clamp (by omega)]; exact hs, by rw [nI_clamp (by omega)]; exact hk⟩, nI_clamp (by omega), nI_clamp (by omega)]; rfl
theorem wd_c : isWd [15, 21, 20] ∧ isWd [9, 14] ∧ isWd [3, 18, 1, 19, 8, 5, 4] ∧ isWd [23, 1, 9, 20, 19] := by
  unfold isWd
  decide
theorem wc_c : (7304564 : Int64) = c8 [15, 21, 20] ∧ (26990 : Int64) = c8 [9, 14] ∧ (27991785567970660 : Int64) = c8 [3, 18, 1, 19, 8, 5, 4] ∧ (512735409267 : Int64) = c8 [23, 1, 9, 20, 19] := by decide +kernel
theorem tag_mid (w : I_w X) (ht : t < ct (bP X 4) 6) (h1 : Xb.1 (47 + 4) = X.1 (47 + 4)) (h2 : Xb.2 = X.2) (h3 : Yb.1 220 = X.1 220) (h4 : Yb.2.1 223 = X.2.1 223) (hx : Xb.1 148 1 = nI n) (hy : Yb.1 218 36 = nI n) (hn : n ≤ 7) : ∃ L : List Nat, L.length ≤ 11 ∧ (∀ E : RM Unit, (rA (47 + 4) 5 (nI t) fun v2 => (jo0 E (fun J56 => (it (v2 = (-1)) (ca (fX9_addText 1) fun _ => J56) (ca (fX9_addText 2) fun _ => (rA (47 + 4) 5 (nI t) fun v3 => (ca (fX5_nameOf 4 0 v3) fun v4 => (ca (fX9_addName v4) fun _ => J56)))))))) Xb = E (cP Xb n L)) ∧ ∀ E : RM Int32, (rA 220 469 (271 + nI t) fun v3 => (jo0 E (fun J84 => (it (v3 = 0) (ca (fX12_says 7304564) fun _ => J84) (ca (fX12_says 26990) fun _ => (rA 220 469 (271 + nI t) fun v11 => (rJ 223 82 (v11 - 1) fun v12 => (ca (fX12_says v12) fun _ => J84)))))))) Yb = E (yP Yb n L) := by
  have ok := w.ok
  have c6 := ok.c6.2
  have c0 := ok.c0.2
  have s1 : X.1 220 (271 + t) = X.1 (47 + 4) t + 1 := w.s.1.at ht
  rcases w.v.2.2 t ht with e | ⟨s, e, hs⟩
  · have e : X.1 (47 + 4) t = -1 := e
    refine ⟨[32, 111, 117, 116], by decide, fun E => ?_, fun E => ?_⟩
    · rw [rA_n (by omega) (by decide), h1, e, jo0_e, it_t rfl, ca_s (addText_e (i := 1) (by decide) (by decide) hx (by simp [tB]; omega))]; rfl
    · rw [ix_la, rA_n (by omega) (by decide), h3, s1, e, jo0_e, it_t (by decide), wc_c.1, ca_s (says_e wd_c.1 hy (by simp; omega))]; rfl
  · have e : X.1 (47 + 4) t = nI s := e
    obtain ⟨w2, wd2, e5, e8⟩ := w.n.1 s hs
    have e5 : X.2.1 6 (0 * 12 + s) = c5 w2 := e5
    have e8 : X.2.1 223 s = c8 w2 := by
      rw [Nat.zero_add] at e8
      exact e8
    have w7 := wd2.2.1
    refine ⟨[32, 105, 110, 32] ++ w2.map (fun d => 96 + d), by simp; omega, fun E => ?_, fun E => ?_⟩
    · have x1 := addText_e (i := 2) (by decide) (by decide) hx (by simp [tB]; omega)
      rw [rA_n (by omega) (by decide), h1, e, jo0_e, it_f (nI_m1 (by omega)), ca_s x1, rA_n (by omega) (by decide), cP_row _ _ _ (by decide) (by decide), h1, e, ca_s (nameOf_e (s := 0) (k := s) (a := 0) rfl (by decide) (by omega)), show (cP Xb n (tB 2)).2.1 = X.2.1 by rw [cP_2, h2], e5, ca_s (addName_e wd2 (cP_n _ _ _ hx) (by simp [tB]; omega))]
      exact congrArg E (cP_app (tB 2) (w2.map (fun d => 96 + d)) Xb n).symm
    · have y1 := says_e wd_c.2.1 hy (by simp; omega)
      rw [← wc_c.2.1] at y1
      have y2 : fX12_says (c8 w2) (yP Yb n [32, 105, 110]) = some ((), yP (yP Yb n [32, 105, 110]) (n + 3) (32 :: w2.map (fun d => 96 + d))) := says_e wd2 (yP_n _ _ _ hy) (by omega)
      have z1 : ¬ nI s + 1 = 0 := by rw [nI_1]; exact nI_n0 (by omega) (by omega)
      have z2 : nI s + 1 - 1 = nI s := by rw [nI_1, show nI (s + 1) - 1 = nI (s + 1 - 1) from ix_sub (c := 1) (by omega), Nat.add_sub_cancel]
      rw [ix_la, rA_n (by omega) (by decide), h3, s1, e, jo0_e, it_f z1, ca_s (show fX12_says 26990 Yb = some ((), yP Yb n [32, 105, 110]) from y1), rA_n (by omega) (by decide), yP_row _ _ _ (by decide) (by decide), h3, s1, e, z2, rJ_n (by omega) (by decide), show (yP Yb n [32, 105, 110]).2.1 = Yb.2.1 by rw [yP_2], h4, e8, ca_s y2]
      exact congrArg E (yP_app [32, 105, 110] (32 :: w2.map (fun d => 96 + d)) Yb n).symm
theorem tag_end (w : I_w X) (ht : t < ct (bP X 4) 6) (h1 : Xb.1 47 = X.1 47) (h3 : Yb.1 220 = X.1 220) (hx : Xb.1 148 1 = nI n) (hy : Yb.1 218 36 = nI n) (hn : n ≤ 18) : ∃ L : List Nat, L.length ≤ 8 ∧ (gI 47 6 fun v5 => (it (((v5 >>> (nI t &&& 31)) &&& 1) = 1) (ca (fX9_addText 3) fun _ => (re ())) (gI 47 7 fun v6 => (it (((v6 >>> (nI t &&& 31)) &&& 1) = 1) (ca (fX9_addText 4) fun _ => (re ())) (re ()))))) Xb = some ((), cP Xb n L) ∧ (rA 220 469 281 fun v4 => (ca (fX12_bitOf v4 (nI t)) fun v5 => (it (v5 = 0) (rA 220 469 282 fun v6 => (ca (fX12_bitOf v6 (nI t)) fun v7 => (it (v7 = 0) (gI 218 36 fun v8 => (re v8)) (ca (fX12_says 512735409267) fun _ => (gI 218 36 fun v9 => (re v9)))))) (ca (fX12_says 27991785567970660) fun _ => (gI 218 36 fun v10 => (re v10)))))) Yb = some (nI (n + L.length), yP Yb n L) := by
  have ok := w.ok
  have c6 := ok.c6.2
  have s1 : X.1 220 281 = X.1 47 6 := w.s.1.cr
  have s2 : X.1 220 282 = X.1 47 7 := w.s.2
  have t32 : t < 32 := by omega
  by_cases c : bt (X.1 47 6) t = true
  · refine ⟨[32, 99, 114, 97, 115, 104, 101, 100], by decide, ?_, ?_⟩
    · rw [gI_e, h1, b_tst t32, c, it_t (show b2 true = 1 from rfl), ca_s (addText_e (i := 3) (by decide) (by decide) hx (by simp [tB]; omega))]; rfl
    · have y1 := says_e wd_c.2.2.1 hy (by simp; omega)
      rw [← wc_c.2.2.1] at y1
      rw [rA_l (by decide) (by decide), h3, s1, ca_s (e_bitOf _ t32), c, it_f (by decide), ca_s y1, gI_e, yP_n _ _ _ hy]; rfl
  · have c : bt (X.1 47 6) t = false := Bool.eq_false_iff.mpr c
    by_cases c2 : bt (X.1 47 7) t = true
    · refine ⟨[32, 119, 97, 105, 116, 115], by decide, ?_, ?_⟩
      · rw [gI_e, h1, b_tst t32, c, it_f (by decide), gI_e, h1, b_tst t32, c2, it_t (show b2 true = 1 from rfl), ca_s (addText_e (i := 4) (by decide) (by decide) hx (by simp [tB]; omega))]; rfl
      · have y1 := says_e wd_c.2.2.2 hy (by simp; omega)
        rw [← wc_c.2.2.2] at y1
        rw [rA_l (by decide) (by decide), h3, s1, ca_s (e_bitOf _ t32), c, it_t (show b2 false = 0 from rfl), rA_l (by decide) (by decide), h3, s2, ca_s (e_bitOf _ t32), c2, it_f (by decide), ca_s y1, gI_e, yP_n _ _ _ hy]; rfl
    · have c2 : bt (X.1 47 7) t = false := Bool.eq_false_iff.mpr c2
      refine ⟨[], by decide, ?_, ?_⟩
      · rw [gI_e, h1, b_tst t32, c, it_f (by decide), gI_e, h1, b_tst t32, c2, it_f (by decide)]; rfl
      · rw [rA_l (by decide) (by decide), h3, s1, ca_s (e_bitOf _ t32), c, it_t (show b2 false = 0 from rfl), rA_l (by decide) (by decide), h3, s2, ca_s (e_bitOf _ t32), c2, it_t (show b2 false = 0 from rfl), gI_e, hy]; rfl
theorem sim_tag (a : Int32) : Sim (fX11_tag a) (fX12_tag a) := sim_mix (fun X Y hX hM => by
  have w := hX.w
  have ok := w.ok
  have c6 := ok.c6.2
  have y220 : Y.1 220 = X.1 220 := (hM 220 (by decide)).1
  have y223 : Y.2.1 223 = X.2.1 223 := (hM 223 (by decide)).2
  have hL : RLa (bP X 4) ((sI Y 218 0 0).1 220) := by rw [sI_row (by decide), y220]; exact w.r
  have e1 : fX11_tag a X = _ := ca_s (k_has (X := X) (p := 4) (s := 6) (a := a) (by decide))
  have e2 : fX12_tag a Y = fX12_tag a Y := rfl
  conv at e2 => rhs; rw [fX12_tag, pI_e, ca_s (e_isTrain hL ok a)]
  by_cases c : 0 ≤ a ∧ a < bP X 4 1 6
  · rw [it_f (bz_t c)] at e1 e2
    rw [ok.c6.1] at c
    obtain ⟨t, ht, rfl⟩ := idx_of (by omega) c
    obtain ⟨w1, wd1, e5, e8⟩ := w.n.2.2.2.2 t ht
    have e5 : X.2.1 6 (6 * 12 + t) = c5 w1 := e5
    have w7 := wd1.2.1
    generalize hXa : sI X 148 1 0 = Xa
    have xr : ∀ b, ¬ b = 148 → Xa.1 b = X.1 b := fun b hb => by rw [← hXa, sI_row hb]
    have xj : Xa.2 = X.2 := by rw [← hXa]; rfl
    have p1 := addName_e (X := Xa) (n := 0) wd1 (by rw [← hXa, sI_eq]; rfl) (by omega)
    generalize hYa : sI (sI Y 218 0 0) 218 36 0 = Ya
    have yr : ∀ b, ¬ b = 218 → Ya.1 b = Y.1 b := fun b hb => by rw [← hYa, sI_row hb, sI_row hb]
    have yj : Ya.2 = Y.2 := by rw [← hYa]; rfl
    have q1 := spells_e (Y := Ya) (n := 0) wd1 (by rw [← hYa, sI_eq]; rfl) (by omega)
    have x0 : Xa.1 148 1 = nI 0 := by rw [← hXa, sI_eq]; rfl
    have y0 : Ya.1 218 36 = nI 0 := by rw [← hYa, sI_eq]; rfl
    generalize hl1 : w1.map (fun d => 96 + d) = l1 at p1 q1
    have n1 : l1.length ≤ 7 := by rw [← hl1, List.length_map]; exact w7
    have x1 := cP_n l1 Xa 0 x0
    have y1 := yP_n l1 Ya 0 y0
    obtain ⟨L2, m1, m2, m3⟩ := tag_mid (Xb := cP Xa 0 l1) (Yb := yP Ya 0 l1) w ht (by rw [cP_row _ _ _ (by decide) (by decide), xr (47 + 4) (by decide)]) (by rw [cP_2, xj]) (by rw [yP_row _ _ _ (by decide) (by decide), yr 220 (by decide), y220]) (by rw [yP_2, yj]; exact y223) x1 y1 (by omega)
    have x2 := cP_n (l1 ++ L2) Xa 0 x0
    have y2 := yP_n (l1 ++ L2) Ya 0 y0
    have ll : (l1 ++ L2).length = l1.length + L2.length := List.length_append
    obtain ⟨L3, k1, k2, k3⟩ := tag_end (Xb := cP Xa 0 (l1 ++ L2)) (Yb := yP Ya 0 (l1 ++ L2)) w ht (by rw [cP_row _ _ _ (by decide) (by decide), xr 47 (by decide)]) (by rw [yP_row _ _ _ (by decide) (by decide), yr 220 (by decide), y220]) x2 y2 (by omega)
    rw [← cP_app] at k2
    rw [← yP_app] at k3
    generalize hLL : l1 ++ L2 ++ L3 = L at k2 k3
    have lL : L.length = l1.length + L2.length + L3.length := by rw [← hLL, List.length_append, ll]
    have x3 := cP_n L Xa 0 x0
    have y3 := yP_n L Ya 0 y0
    have compW : fX9_write (nI t) X = some ((), cP Xa 0 L) := by
      unfold fX9_write
      rw [pI_e, hXa, ca_s (nameOf_e (s := 6) (k := t) (a := 6) rfl (by decide) (by omega)), show Xa.2.1 = X.2.1 by rw [xj], e5, ca_s p1]
      refine (m2 _).trans ?_
      rw [← cP_app]
      exact k2
    have compF : fX11_tag (nI t) X = some (nI (0 + L.length), cP Xa 0 L) := by rw [e1, ca_s compW, gI_e, x3]; rfl
    have refF : fX12_tag (nI t) Y = some (nI (0 + L.length), yP Ya 0 L) := by
      rw [e2, pI_e, hYa, ix_la, rJ_n (by omega) (by decide), show Ya.2.1 = Y.2.1 by rw [yj], y223, e8, ca_s q1]
      refine (m3 _).trans ?_
      rw [← yP_app]
      refine k3.trans ?_
      rw [ll, lL, Nat.zero_add, Nat.zero_add]
    refine ⟨_, cP Xa 0 L, yP Ya 0 L, compF, refF, fun b hb => ?_, ⟨fun b hb => ?_, ?_⟩, ?_⟩
    · exact ⟨by rw [cP_row _ _ _ (by omega) (by omega), xr b (by omega)], by rw [cP_2, xj]⟩
    · exact ⟨by rw [yP_row _ _ _ (by omega) (by omega), yr b (by omega)], by rw [yP_2, yj]⟩
    · rw [yP_2, yj]
    · generalize hZ : mx (cP Xa 0 L) (yP Ya 0 L) = Z
      have R : ∀ b, ¬ b = 148 → ¬ b = 149 → ¬ b = 218 → ¬ b = 232 → Z.1 b = X.1 b := fun b k1 k2 k3 k4 => by
        rw [← hZ]
        by_cases c : b < 218
        · rw [mx_c c, cP_row _ _ _ k1 k2, xr b k1]
        · rw [mx_m (by omega), yP_row _ _ _ k3 k4, yr b k3, (hM b (by omega)).1]
      have F : ∀ k, ¬ k = 0 → ¬ k = 36 → Z.1 218 k = X.1 218 k := fun k k0 k36 => by
        rw [← hZ, mx_m (by decide), yP_fd _ _ _ k36, ← hYa, sI_ne (by omega), sI_ne (by omega), (hM 218 (by decide)).1]
      have J : ∀ b, Z.2.1 b = X.2.1 b := fun b => by
        rw [← hZ]
        by_cases c : b < 218
        · rw [mx_cJ c, cP_2, xj]
        · rw [mx_mJ (by omega), yP_2, yj, (hM b (by omega)).2]
      have Gh : Z.2.2 = X.2.2 := by
        rw [← hZ]
        show (cP Xa 0 L).2.2 = _
        rw [cP_2, xj]
      refine ⟨?_, ?_, ?_, ?_, ?_, ?_, ?_, ?_, ?_, ?_⟩
      · exact hX.t.of (congrFun (by exact R _ (by omega) (by omega) (by omega) (by omega)) 1) (by exact R _ (by omega) (by omega) (by omega) (by omega)) (by exact F _ (by decide) (by decide)) (by exact R _ (by omega) (by omega) (by omega) (by omega))
      · exact hX.k.of (by exact J _) (by exact J _)
      · exact hX.w.of (fun a ha => by exact R _ (by omega) (by omega) (by omega) (by omega)) (fun a ha => by exact J _)
      · exact hX.h.of (fun a ha => by exact R _ (by omega) (by omega) (by omega) (by omega)) (by exact F _ (by decide) (by decide)) Gh
      · exact hX.i.of (fun a ha => by exact R _ (by omega) (by omega) (by omega) (by omega)) (fun a ha => by exact J _)
      · exact hX.b.of (by exact R _ (by omega) (by omega) (by omega) (by omega)) (by exact F _ (by decide) (by decide)) (by exact R _ (by omega) (by omega) (by omega) (by omega))
      · exact hX.c.of (fun a ha => by exact R _ (by omega) (by omega) (by omega) (by omega)) (by exact F _ (by decide) (by decide)) (by exact F _ (by decide) (by decide))
      · exact hX.f.of (fun a ha => by exact R _ (by omega) (by omega) (by omega) (by omega)) (by exact F _ (by decide) (by decide)) (by exact F _ (by decide) (by decide))
      · exact ⟨0 + L.length, by omega, by rw [← hZ, mx_c (by decide)]; exact x3, by rw [← hZ, mx_m (by decide)]; exact y3, fun i hi => by rw [← hZ, mx_c (by decide), mx_m (by decide)]; exact cP_yP L Xa Ya 0 (fun i hi => absurd hi (Nat.not_lt_zero i)) i hi⟩
      · exact hX.o.of (by exact R _ (by omega) (by omega) (by omega) (by omega)) (by exact F _ (by decide) (by decide)) (by exact F _ (by decide) (by decide)) (by exact F _ (by decide) (by decide))
  · rw [it_t (bz_f c)] at e1 e2
    refine ⟨-1, X, sI Y 218 0 0, e1, e2, fun b hb => ⟨rfl, rfl⟩, ⟨fun b hb => ⟨sI_row (by omega), rfl⟩, rfl⟩, ?_⟩
    generalize hZ : mx X (sI Y 218 0 0) = Z
    have R : ∀ b, ¬ b = 218 → Z.1 b = X.1 b := fun b k3 => by
      rw [← hZ]
      by_cases c : b < 218
      · rw [mx_c c]
      · rw [mx_m (by omega), sI_row k3, (hM b (by omega)).1]
    have F : ∀ k, ¬ k = 0 → Z.1 218 k = X.1 218 k := fun k k0 => by
      rw [← hZ, mx_m (by decide), sI_ne (by omega), (hM 218 (by decide)).1]
    have J : ∀ b, Z.2.1 b = X.2.1 b := fun b => by
      rw [← hZ]
      by_cases c : b < 218
      · rw [mx_cJ c]
      · rw [mx_mJ (by omega)]; exact (hM b (by omega)).2
    have Gh : Z.2.2 = X.2.2 := by rw [← hZ]; rfl
    refine ⟨?_, ?_, ?_, ?_, ?_, ?_, ?_, ?_, ?_, ?_⟩
    · exact hX.t.of (congrFun (by exact R _ (by omega)) 1) (by exact R _ (by omega)) (by exact F _ (by decide)) (by exact R _ (by omega))
    · exact hX.k.of (by exact J _) (by exact J _)
    · exact hX.w.of (fun a ha => by exact R _ (by omega)) (fun a ha => by exact J _)
    · exact hX.h.of (fun a ha => by exact R _ (by omega)) (by exact F _ (by decide)) Gh
    · exact hX.i.of (fun a ha => by exact R _ (by omega)) (fun a ha => by exact J _)
    · exact hX.b.of (by exact R _ (by omega)) (by exact F _ (by decide)) (by exact R _ (by omega))
    · exact hX.c.of (fun a ha => by exact R _ (by omega)) (by exact F _ (by decide)) (by exact F _ (by decide))
    · exact hX.f.of (fun a ha => by exact R _ (by omega)) (by exact F _ (by decide)) (by exact F _ (by decide))
    · exact hX.g.of (fun a ha => by exact R _ (by omega)) (by exact F _ (by decide))
    · exact hX.o.of (by exact R _ (by omega)) (by exact F _ (by decide)) (by exact F _ (by decide)) (by exact F _ (by decide)))
end TH
