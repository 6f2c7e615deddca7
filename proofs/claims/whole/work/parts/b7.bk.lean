/-! a book: its lines -/
section BM
variable {X Y X1 Y1 X0 Y0 : X_} {n p : Nat} {W1 W2 W3 T : Nat → Int32} {lx ly : Int32}
theorem LXb.y (h : LXb X0 Y0 X1 Y1) (k : Nat) (v : Int32) : LXb X0 Y0 X1 (sI Y1 222 k v) := by
  obtain ⟨hF, hG, h1, h2⟩ := h
  exact ⟨hF, ⟨fun a q1 q2 => (sI_row q2).trans (hG.1 a q1 q2), fun j hj => (sI_ne (by omega)).trans (hG.2.1 j hj), hG.2.2.1, hG.2.2.2⟩, by rw [sI_ne (by omega)]; exact h1, by rw [sI_ne (by omega)]; exact h2⟩
def n_bk (v1 w3 : Int32) : RM Int32 := (it (0 ≤ w3) (gI 218 38 fun v4 => (it (v4 = 40) (ca (fX12_bad 4) fun v17 => (rz v17)) (ca fX12_next fun _ => (wA 222 135 (3 * v1) w3 (jo1 (fun w5 => (gI 218 18 fun v6 => (wA 222 135 ((3 * v1) + 1) v6 (it (w5 = 0) (rz w5) (it (w3 = 3) (ca (fX12_isWord 1718971500) fun v7 => (jo0 ((it (v7 = 0) (wA 222 135 ((3 * v1) + 2) 0 (ca fX12_next fun _ => (re 1))) (wA 222 135 ((3 * v1) + 2) 1 (ca fX12_next fun _ => (re 1))))) (fun J249 => (it (v7 = 0) (ca (fX12_isWord 427020345714) fun v8 => (it (v8 = 0) (ca (fX12_bad 1) fun v9 => (rz v9)) J249)) J249)))) (rz w5)))))) (fun J195 => (it (2 ≤ w3) (it (w3 = 2) (rA 220 469 1 fun v13 => (ca (fX12_takesName 12 v13) fun v14 => (J195 v14))) (it (5 ≤ w3) (ca (fX12_takes 1 60) fun v10 => (J195 v10)) (rA 220 469 0 fun v11 => (ca (fX12_takesName 0 v11) fun v12 => (J195 v12))))) (rA 220 469 4 fun v15 => (ca (fX12_takesName 26 v15) fun v16 => (J195 v16)))))))))) (ca (fX12_bad 1) fun v18 => (rz v18)))
theorem e_bkLine (K : TK X Y) : fX12_bookLine Y = if X.1 1 8 = nI 13 then n_bk (Y.1 218 38) 0 Y else if X.1 1 8 = nI 14 then n_bk (Y.1 218 38) 1 Y else if X.1 1 8 = nI 15 then n_bk (Y.1 218 38) 2 Y else if X.1 1 8 = nI 16 then n_bk (Y.1 218 38) 3 Y else if X.1 1 8 = nI 19 then n_bk (Y.1 218 38) 4 Y else if X.1 1 8 = nI 20 then n_bk (Y.1 218 38) 5 Y else n_bk (Y.1 218 38) (-1) Y := by
  obtain ⟨w13, w14, w15, w16, -, -, w19, w20⟩ := kw_c
  have step : ∀ (k : Nat) (c : Int64) (A B : RM Int32), k < 32 → c = c8 (kwds.getD k []) → (ca (fX12_isWord c) fun v => (it (v = 0) A B)) Y = if X.1 1 8 = nI k then B Y else A Y := fun k c A B hk hc => by
    rw [ca_s (e_isWord K hk hc), it_bb]
    exact if_iff decide_eq_true_iff
  have st0 : fX12_bookLine Y = (ca (fX12_isWord 7562612) fun v2 => (it (v2 = 0) (ca (fX12_isWord 1650549611) fun v19 => (it (v19 = 0) (ca (fX12_isWord 499968536439) fun v20 => (it (v20 = 0) (ca (fX12_isWord 1717660012) fun v21 => (it (v21 = 0) (ca (fX12_isWord 1835363940) fun v22 => (it (v22 = 0) (ca (fX12_isWord 1953063787) fun v23 => (it (v23 = 0) (n_bk (Y.1 218 38) (-1)) (n_bk (Y.1 218 38) 5))) (n_bk (Y.1 218 38) 4))) (n_bk (Y.1 218 38) 3))) (n_bk (Y.1 218 38) 2))) (n_bk (Y.1 218 38) 1))) (n_bk (Y.1 218 38) 0))) Y := rfl
  rw [st0, step 13 _ _ _ (by decide) w13.symm, step 14 _ _ _ (by decide) w14.symm, step 15 _ _ _ (by decide) w15.symm, step 16 _ _ _ (by decide) w16.symm, step 19 _ _ _ (by decide) w19.symm, step 20 _ _ _ (by decide) w20.symm]
theorem act_no {v : Int32} (h13 : ¬ v = 13) (h14 : ¬ v = 14) (h15 : ¬ v = 15) (h16 : ¬ v = 16) (h19 : ¬ v = 19) (h20 : ¬ v = 20) : fX0_isAct v X = some (0, X) := by
  unfold fX0_isAct
  rw [it_f h13, it_f h14, it_f h15, it_f h16, it_f h19, it_f h20]; rfl
theorem r_bkLine {l : Nat} {Q : m_V} {V : m_V} (hW : Wd (bP X0 4) (bPJ X0 4) V Q (Y0.1 220) (Y0.2.1 223)) (h : BL X0 Y0 n p (bP X0 4) l (nI l) (nI l) X Y) (K : TK X Y) (l40 : l ≤ 40) : BE X0 Y0 n p l X Y fX0_readLine fX12_bookLine := by
  obtain ⟨W1, W2, W3, T, h0, hR⟩ := h
  have ok := hW.ok
  have bd := ok.bd
  have hr := e_bkLine K
  have ly : Y.1 218 38 = nI l := h0.2.2.2.2.2.2
  have lx : X.1 126 3 = nI l := h0.2.2.2.2.2.1
  rw [ly] at hr
  have full : ∀ (kk w : Int32), fX0_isAct kk X = some (1, X) → X.1 1 8 = kk → 0 ≤ w → fX12_bookLine Y = n_bk (nI l) w Y → ¬ l < 40 → BE X0 Y0 n p l X Y fX0_readLine fX12_bookLine := fun kk w a1 a2 a3 a4 a5 => by
    refine BE.bad (X1 := wX X 4) (Y1 := wY Y 4) ?_ ?_ (h0.fail (FL.w K.1))
    · unfold fX0_readLine
      rw [gI_e, a2, ca_s a1, it_f (by decide), gI_e, lx, it_f (show ¬ nI l < 40 from fun z => a5 ((nI_ltI (b := 40) (by omega) (by decide)).mp z)), ca_s (e_wrong 4), rz_0]
    · rw [a4]
      unfold n_bk
      rw [it_t a3, gI_e, ly, it_t (show nI l = 40 by rw [show l = 40 by omega]; rfl), ca_s (e_bad 4), rz_0]
  by_cases k13 : X.1 1 8 = nI 13
  · rw [if_pos k13] at hr
    by_cases lt0 : ¬ l < 40
    · exact full 13 0 rfl k13 (by decide) hr lt0
    have lt : l < 40 := by omega
    obtain ⟨X1, Y1, p1, n1, n1', h1, K1, -, pp1, -, -⟩ := h0.next
    have h1w := h1.y (3 * l) 0
    have K1w : TK X1 (sI Y1 222 (3 * l) 0) := K1.y rfl rfl rfl rfl
    have l40' : nI l < 40 := (nI_ltI (b := 40) (by omega) (by decide)).mpr lt
    have n40 : ¬ nI l = 40 := fun z => absurd ((nI_eq (b := 40) (by omega) (by decide)).mp z) (by omega)
    have q1 := k_namB (s := 4) (a := 4) h0 rfl (by decide) ok.c4.1 (by omega) n1
    have s0 : (sI Y1 222 (3 * l) 0).1 220 4 = nI (ct (bP X0 4) 4) := by rw [h1w.S.1]; exact hW.r.n4 ok
    have cm : ∀ {v : Int32} {Z : X_}, fX10_named 4 4 X1 = some (v, Z) → fX0_readLine X = (it (v = (-1)) (re 0) (gI 126 3 fun v6 => (wA 127 40 v6 13 (gI 126 3 fun v7 => (wA 128 40 v7 v (gI 126 3 fun v8 => (wA 129 40 v8 0 (ca fX10_next fun _ => (re 1))))))))) Z := fun e => by
      unfold fX0_readLine
      rw [gI_e, show X.1 1 8 = 13 from k13, ca_s (show fX0_isAct 13 X = some (1, X) from rfl), it_f (by decide), gI_e, lx, it_t l40', jo1_e, it_f (by decide), ca_s sort13, ca_s (q1.trans e)]
      rfl
    have rf : ∀ {v : Int32} {Z : X_}, fX12_takesName 26 (nI (ct (bP X0 4) 4)) (sI Y1 222 (3 * l) 0) = some (v, Z) → fX12_bookLine Y = (gI 218 18 fun v6 => (wA 222 135 ((3 * nI l) + 1) v6 (it (v = 0) (rz v) (rz v)))) Z := fun e => by
      rw [hr]
      unfold n_bk
      rw [it_t (by decide), gI_e, ly, it_f n40, ca_s n1', ix_lm, wA_n (by omega) (by decide), jo1_e, it_f (by decide), rA_l (by decide) (by decide), s0, ca_s e, ← ix_lm]
      rfl
    rcases h1w.look K1w (s := 4) (f := 26) (c := ct (bP X0 4) 4) (a := 4) (af := 26) (am := nI (ct (bP X0 4) 4)) rfl (by decide) ok.c4.1 (by omega) rfl (by omega) rfl (fun i hi => hW.n.2.2.2.1 i hi) with ⟨X3, Y3, d1, d2, d3⟩ | ⟨k, k1, d1, d2, -⟩
    · refine BE.bad (X1 := X3) (Y1 := sI Y3 222 (3 * l + 1) (Y3.1 218 18)) ?_ ?_ ((h1w.fail d3).y _ _)
      · rw [cm d1, it_t rfl]; rfl
      · rw [rf (e_takesName0 d2), gI_e, ix_lm, ix_al, wA_n (by omega) (by decide), it_t rfl, rz_0]
    · obtain ⟨X5, Y5, p5, n5, n5', h5, K5, t5, pp5, sg5, -⟩ := ((h1w.got (nI k)).x3 l 13 (nI k) 0).next
      have hf := h5.y (3 * l + 1) (nI k)
      refine ⟨1, X5, sI Y5 222 (3 * l + 1) (nI k), ?_, ?_, Or.inr ⟨rfl, p5, ⟨_, _, _, _, hf, BR.add (a := 0) (b := nI k) hR ⟨k, rfl, rfl, Or.inl ⟨rfl, rfl, k1⟩⟩ (fun j hj => by rw [upS_ne (by omega), upS_ne (by omega)]) (by rw [upS_ne (by omega), upS_eq]) upS_eq rfl⟩, K5.y rfl rfl rfl rfl, by omega, fun z => ?_⟩⟩
      · rw [cm d1, it_f (nI_m1 (by omega)), gI_e, h1.2.2.2.2.2.1, wA_n lt (by decide), gI_e, sI_ne (by omega), h1.2.2.2.2.2.1, wA_n lt (by decide), gI_e, sI_ne (by omega), sI_ne (by omega), h1.2.2.2.2.2.1, wA_n lt (by decide), ca_s n5]; rfl
      · rw [rf (e_takesName (v := 0) d2 n5'), gI_e, t5, sI_eq, ix_lm, ix_al, wA_n (by omega) (by decide), it_f (by decide), rz_1]
      · obtain ⟨e, a1, a2, a3, a4⟩ := sg5 z
        exact ⟨e, a1, by omega, a3, a4⟩
  rw [if_neg k13] at hr
  by_cases k14 : X.1 1 8 = nI 14
  · rw [if_pos k14] at hr
    by_cases lt0 : ¬ l < 40
    · exact full 14 1 rfl k14 (by decide) hr lt0
    have lt : l < 40 := by omega
    obtain ⟨X1, Y1, p1, n1, n1', h1, K1, -, pp1, -, -⟩ := h0.next
    have h1w := h1.y (3 * l) 1
    have K1w : TK X1 (sI Y1 222 (3 * l) 1) := K1.y rfl rfl rfl rfl
    have l40' : nI l < 40 := (nI_ltI (b := 40) (by omega) (by decide)).mpr lt
    have n40 : ¬ nI l = 40 := fun z => absurd ((nI_eq (b := 40) (by omega) (by decide)).mp z) (by omega)
    have q1 := k_namB (s := 4) (a := 4) h0 rfl (by decide) ok.c4.1 (by omega) n1
    have s0 : (sI Y1 222 (3 * l) 1).1 220 4 = nI (ct (bP X0 4) 4) := by rw [h1w.S.1]; exact hW.r.n4 ok
    have cm : ∀ {v : Int32} {Z : X_}, fX10_named 4 4 X1 = some (v, Z) → fX0_readLine X = (it (v = (-1)) (re 0) (gI 126 3 fun v6 => (wA 127 40 v6 14 (gI 126 3 fun v7 => (wA 128 40 v7 v (gI 126 3 fun v8 => (wA 129 40 v8 0 (ca fX10_next fun _ => (re 1))))))))) Z := fun e => by
      unfold fX0_readLine
      rw [gI_e, show X.1 1 8 = 14 from k14, ca_s (show fX0_isAct 14 X = some (1, X) from rfl), it_f (by decide), gI_e, lx, it_t l40', jo1_e, it_f (by decide), ca_s sort14, ca_s (q1.trans e)]
      rfl
    have rf : ∀ {v : Int32} {Z : X_}, fX12_takesName 26 (nI (ct (bP X0 4) 4)) (sI Y1 222 (3 * l) 1) = some (v, Z) → fX12_bookLine Y = (gI 218 18 fun v6 => (wA 222 135 ((3 * nI l) + 1) v6 (it (v = 0) (rz v) (rz v)))) Z := fun e => by
      rw [hr]
      unfold n_bk
      rw [it_t (by decide), gI_e, ly, it_f n40, ca_s n1', ix_lm, wA_n (by omega) (by decide), jo1_e, it_f (by decide), rA_l (by decide) (by decide), s0, ca_s e, ← ix_lm]
      rfl
    rcases h1w.look K1w (s := 4) (f := 26) (c := ct (bP X0 4) 4) (a := 4) (af := 26) (am := nI (ct (bP X0 4) 4)) rfl (by decide) ok.c4.1 (by omega) rfl (by omega) rfl (fun i hi => hW.n.2.2.2.1 i hi) with ⟨X3, Y3, d1, d2, d3⟩ | ⟨k, k1, d1, d2, -⟩
    · refine BE.bad (X1 := X3) (Y1 := sI Y3 222 (3 * l + 1) (Y3.1 218 18)) ?_ ?_ ((h1w.fail d3).y _ _)
      · rw [cm d1, it_t rfl]; rfl
      · rw [rf (e_takesName0 d2), gI_e, ix_lm, ix_al, wA_n (by omega) (by decide), it_t rfl, rz_0]
    · obtain ⟨X5, Y5, p5, n5, n5', h5, K5, t5, pp5, sg5, -⟩ := ((h1w.got (nI k)).x3 l 14 (nI k) 0).next
      have hf := h5.y (3 * l + 1) (nI k)
      refine ⟨1, X5, sI Y5 222 (3 * l + 1) (nI k), ?_, ?_, Or.inr ⟨rfl, p5, ⟨_, _, _, _, hf, BR.add (a := 1) (b := nI k) hR ⟨k, rfl, rfl, Or.inr (Or.inl ⟨rfl, rfl, k1⟩)⟩ (fun j hj => by rw [upS_ne (by omega), upS_ne (by omega)]) (by rw [upS_ne (by omega), upS_eq]) upS_eq rfl⟩, K5.y rfl rfl rfl rfl, by omega, fun z => ?_⟩⟩
      · rw [cm d1, it_f (nI_m1 (by omega)), gI_e, h1.2.2.2.2.2.1, wA_n lt (by decide), gI_e, sI_ne (by omega), h1.2.2.2.2.2.1, wA_n lt (by decide), gI_e, sI_ne (by omega), sI_ne (by omega), h1.2.2.2.2.2.1, wA_n lt (by decide), ca_s n5]; rfl
      · rw [rf (e_takesName (v := 0) d2 n5'), gI_e, t5, sI_eq, ix_lm, ix_al, wA_n (by omega) (by decide), it_f (by decide), rz_1]
      · obtain ⟨e, a1, a2, a3, a4⟩ := sg5 z
        exact ⟨e, a1, by omega, a3, a4⟩
  rw [if_neg k14] at hr
  by_cases k15 : X.1 1 8 = nI 15
  · rw [if_pos k15] at hr
    by_cases lt0 : ¬ l < 40
    · exact full 15 2 rfl k15 (by decide) hr lt0
    have lt : l < 40 := by omega
    obtain ⟨X1, Y1, p1, n1, n1', h1, K1, -, pp1, -, -⟩ := h0.next
    have h1w := h1.y (3 * l) 2
    have K1w : TK X1 (sI Y1 222 (3 * l) 2) := K1.y rfl rfl rfl rfl
    have l40' : nI l < 40 := (nI_ltI (b := 40) (by omega) (by decide)).mpr lt
    have n40 : ¬ nI l = 40 := fun z => absurd ((nI_eq (b := 40) (by omega) (by decide)).mp z) (by omega)
    have q1 := k_namB (s := 1) (a := 1) h0 rfl (by decide) ok.c1.1 (by omega) n1
    have s0 : (sI Y1 222 (3 * l) 2).1 220 1 = nI (ct (bP X0 4) 1) := by rw [h1w.S.1]; exact hW.r.n1 ok
    have cm : ∀ {v : Int32} {Z : X_}, fX10_named 4 1 X1 = some (v, Z) → fX0_readLine X = (it (v = (-1)) (re 0) (gI 126 3 fun v6 => (wA 127 40 v6 15 (gI 126 3 fun v7 => (wA 128 40 v7 v (gI 126 3 fun v8 => (wA 129 40 v8 0 (ca fX10_next fun _ => (re 1))))))))) Z := fun e => by
      unfold fX0_readLine
      rw [gI_e, show X.1 1 8 = 15 from k15, ca_s (show fX0_isAct 15 X = some (1, X) from rfl), it_f (by decide), gI_e, lx, it_t l40', jo1_e, it_f (by decide), ca_s sort15, ca_s (q1.trans e)]
      rfl
    have rf : ∀ {v : Int32} {Z : X_}, fX12_takesName 12 (nI (ct (bP X0 4) 1)) (sI Y1 222 (3 * l) 2) = some (v, Z) → fX12_bookLine Y = (gI 218 18 fun v6 => (wA 222 135 ((3 * nI l) + 1) v6 (it (v = 0) (rz v) (rz v)))) Z := fun e => by
      rw [hr]
      unfold n_bk
      rw [it_t (by decide), gI_e, ly, it_f n40, ca_s n1', ix_lm, wA_n (by omega) (by decide), jo1_e, it_t (by decide), it_t rfl, rA_l (by decide) (by decide), s0, ca_s e, ← ix_lm]
      rfl
    rcases h1w.look K1w (s := 1) (f := 12) (c := ct (bP X0 4) 1) (a := 1) (af := 12) (am := nI (ct (bP X0 4) 1)) rfl (by decide) ok.c1.1 (by omega) rfl (by omega) rfl (fun i hi => hW.n.2.1 i hi) with ⟨X3, Y3, d1, d2, d3⟩ | ⟨k, k1, d1, d2, -⟩
    · refine BE.bad (X1 := X3) (Y1 := sI Y3 222 (3 * l + 1) (Y3.1 218 18)) ?_ ?_ ((h1w.fail d3).y _ _)
      · rw [cm d1, it_t rfl]; rfl
      · rw [rf (e_takesName0 d2), gI_e, ix_lm, ix_al, wA_n (by omega) (by decide), it_t rfl, rz_0]
    · obtain ⟨X5, Y5, p5, n5, n5', h5, K5, t5, pp5, sg5, -⟩ := ((h1w.got (nI k)).x3 l 15 (nI k) 0).next
      have hf := h5.y (3 * l + 1) (nI k)
      refine ⟨1, X5, sI Y5 222 (3 * l + 1) (nI k), ?_, ?_, Or.inr ⟨rfl, p5, ⟨_, _, _, _, hf, BR.add (a := 2) (b := nI k) hR ⟨k, rfl, rfl, Or.inr (Or.inr (Or.inl ⟨rfl, rfl, k1⟩))⟩ (fun j hj => by rw [upS_ne (by omega), upS_ne (by omega)]) (by rw [upS_ne (by omega), upS_eq]) upS_eq rfl⟩, K5.y rfl rfl rfl rfl, by omega, fun z => ?_⟩⟩
      · rw [cm d1, it_f (nI_m1 (by omega)), gI_e, h1.2.2.2.2.2.1, wA_n lt (by decide), gI_e, sI_ne (by omega), h1.2.2.2.2.2.1, wA_n lt (by decide), gI_e, sI_ne (by omega), sI_ne (by omega), h1.2.2.2.2.2.1, wA_n lt (by decide), ca_s n5]; rfl
      · rw [rf (e_takesName (v := 0) d2 n5'), gI_e, t5, sI_eq, ix_lm, ix_al, wA_n (by omega) (by decide), it_f (by decide), rz_1]
      · obtain ⟨e, a1, a2, a3, a4⟩ := sg5 z
        exact ⟨e, a1, by omega, a3, a4⟩
  rw [if_neg k15] at hr
  by_cases k16 : X.1 1 8 = nI 16
  · rw [if_pos k16] at hr
    by_cases lt0 : ¬ l < 40
    · exact full 16 3 rfl k16 (by decide) hr lt0
    have lt : l < 40 := by omega
    obtain ⟨X1, Y1, p1, n1, n1', h1, K1, -, pp1, -, -⟩ := h0.next
    have h1w := h1.y (3 * l) 3
    have K1w : TK X1 (sI Y1 222 (3 * l) 3) := K1.y rfl rfl rfl rfl
    have l40' : nI l < 40 := (nI_ltI (b := 40) (by omega) (by decide)).mpr lt
    have n40 : ¬ nI l = 40 := fun z => absurd ((nI_eq (b := 40) (by omega) (by decide)).mp z) (by omega)
    have q1 := k_namB (s := 0) (a := 0) h0 rfl (by decide) ok.c0.1 (by omega) n1
    have s0 : (sI Y1 222 (3 * l) 3).1 220 0 = nI (ct (bP X0 4) 0) := by rw [h1w.S.1]; exact hW.r.n0 ok
    have cm : ∀ {v : Int32} {Z : X_}, fX10_named 4 0 X1 = some (v, Z) → fX0_readLine X = (it (v = (-1)) (re 0) (ca (fX10_nextOfTwo 17) fun w5 => (it (w5 = (-1)) (re 0) (gI 126 3 fun v6 => (wA 127 40 v6 16 (gI 126 3 fun v7 => (wA 128 40 v7 v (gI 126 3 fun v8 => (wA 129 40 v8 w5 (ca fX10_next fun _ => (re 1))))))))))) Z := fun e => by
      unfold fX0_readLine
      rw [gI_e, show X.1 1 8 = 16 from k16, ca_s (show fX0_isAct 16 X = some (1, X) from rfl), it_f (by decide), gI_e, lx, it_t l40', jo1_e, it_f (by decide), ca_s sort16, ca_s (q1.trans e)]
      rfl
    have rf : ∀ {v : Int32} {Z : X_}, fX12_takesName 0 (nI (ct (bP X0 4) 0)) (sI Y1 222 (3 * l) 3) = some (v, Z) → fX12_bookLine Y = (gI 218 18 fun v6 => (wA 222 135 ((3 * nI l) + 1) v6 (it (v = 0) (rz v) (ca (fX12_isWord 1718971500) fun v7 => (jo0 ((it (v7 = 0) (wA 222 135 ((3 * nI l) + 2) 0 (ca fX12_next fun _ => (re 1))) (wA 222 135 ((3 * nI l) + 2) 1 (ca fX12_next fun _ => (re 1))))) (fun J249 => (it (v7 = 0) (ca (fX12_isWord 427020345714) fun v8 => (it (v8 = 0) (ca (fX12_bad 1) fun v9 => (rz v9)) J249)) J249))))))) Z := fun e => by
      rw [hr]
      unfold n_bk
      rw [it_t (by decide), gI_e, ly, it_f n40, ca_s n1', ix_lm, wA_n (by omega) (by decide), jo1_e, it_t (by decide), it_f (by decide), it_f (by decide), rA_l (by decide) (by decide), s0, ca_s e, ← ix_lm]
      rfl
    rcases h1w.look K1w (s := 0) (f := 0) (c := ct (bP X0 4) 0) (a := 0) (af := 0) (am := nI (ct (bP X0 4) 0)) rfl (by decide) ok.c0.1 (by omega) rfl (by omega) rfl (fun i hi => by have := hW.n.1 i hi; rwa [Nat.zero_add] at this ⊢) with ⟨X3, Y3, d1, d2, d3⟩ | ⟨k, k1, d1, d2, -⟩
    · refine BE.bad (X1 := X3) (Y1 := sI Y3 222 (3 * l + 1) (Y3.1 218 18)) ?_ ?_ ((h1w.fail d3).y _ _)
      · rw [cm d1, it_t rfl]; rfl
      · rw [rf (e_takesName0 d2), gI_e, ix_lm, ix_al, wA_n (by omega) (by decide), it_t rfl, rz_0]
    · obtain ⟨X2, Y2, p2, n2, n2', h2, K2, t2, pp2, -, -⟩ := (h1w.got (nI k)).next
      have q2 : fX10_nextOfTwo 17 X1 = k_tw 17 X2 := (k_nextTwo h1.b.ok).trans (ca_s n2)
      have h2w := h2.y (3 * l + 1) (nI k)
      have K2w : TK X2 (sI Y2 222 (3 * l + 1) (nI k)) := K2.y rfl rfl rfl rfl
      have rf2 := rf (e_takesName (v := 0) d2 n2')
      rw [gI_e, t2, sI_eq, ix_lm, ix_al, wA_n (by omega) (by decide), it_f (by decide), ca_s (e_isWord K2w (k := 18) (by decide) kw_c.2.2.2.2.2.1.symm), jo0_e] at rf2
      have cm2 := cm d1
      rw [it_f (nI_m1 (by omega))] at cm2
      have fin : ∀ y : Int32, (y = 0 ∨ y = 1) → k_tw 17 X2 = some (y, X2) → fX12_bookLine Y = (wA 222 135 (nI (3 * l) + 2) y (ca fX12_next fun _ => (re 1))) (sI Y2 222 (3 * l + 1) (nI k)) → BE X0 Y0 n p l X Y fX0_readLine fX12_bookLine := fun y y01 y1 y2 => by
        have yp := y01_pos y01
        obtain ⟨X5, Y5, p5, n5, n5', h5, K5, -, pp5, sg5, -⟩ := ((h2w.y (3 * l + 2) y).x3 l 16 (nI k) y).next
        refine ⟨1, X5, Y5, ?_, ?_, Or.inr ⟨rfl, p5, ⟨_, _, _, _, h5, BR.add (a := 3) (b := nI k) (c := y) hR ⟨k, rfl, rfl, Or.inr (Or.inr (Or.inr (Or.inl ⟨rfl, rfl, k1, y01, rfl⟩)))⟩ (fun j hj => by rw [upS_ne (by omega), upS_ne (by omega), upS_ne (by omega)]) (by rw [upS_ne (by omega), upS_ne (by omega), upS_eq]) (by rw [upS_ne (by omega), upS_eq]) upS_eq⟩, K5, by omega, fun z => ?_⟩⟩
        · rw [cm2, ca_s (q2.trans y1), it_f yp.2, gI_e, h2.2.2.2.2.2.1, wA_n lt (by decide), gI_e, sI_ne (by omega), h2.2.2.2.2.2.1, wA_n lt (by decide), gI_e, sI_ne (by omega), sI_ne (by omega), h2.2.2.2.2.2.1, wA_n lt (by decide), ca_s n5]; rfl
        · rw [y2, ix_al, wA_n (by omega) (by decide), ca_s n5']; rfl
        · obtain ⟨e, a1, a2, a3, a4⟩ := sg5 z
          exact ⟨e, a1, by omega, a3, a4⟩
      rcases k_tw_cases K2 (j := 17) (w := 17) rfl (by decide) with ⟨e, t⟩ | ⟨e, t⟩ | ⟨y1, y2, t⟩
      · refine fin 0 (Or.inl rfl) t ?_
        rw [decide_eq_false (fun z => by rw [e] at z; exact absurd ((nI_eq (by omega) (by omega)).mp z) (by omega)), it_t (show b2 false = 0 from rfl), ca_s (e_isWord K2w (k := 17) (by decide) kw_c.2.2.2.2.1.symm), decide_eq_true e, it_f (show ¬ b2 true = 0 by decide), it_t (show b2 false = 0 from rfl)] at rf2
        exact rf2
      · refine fin 1 (Or.inr rfl) t ?_
        rw [decide_eq_true e, it_f (show ¬ b2 true = 0 by decide), it_f (show ¬ b2 true = 0 by decide)] at rf2
        exact rf2
      · rw [decide_eq_false y2, it_t (show b2 false = 0 from rfl), ca_s (e_isWord K2w (k := 17) (by decide) kw_c.2.2.2.2.1.symm), decide_eq_false y1, it_t (show b2 false = 0 from rfl), ca_s (e_bad 1), rz_0] at rf2
        refine BE.bad (X1 := wX X2 1) ?_ rf2 (h2w.fail (FL.w K2w.1))
        rw [cm2, ca_s (q2.trans t), it_t rfl]; rfl
  rw [if_neg k16] at hr
  by_cases k19 : X.1 1 8 = nI 19
  · rw [if_pos k19] at hr
    by_cases lt0 : ¬ l < 40
    · exact full 19 4 rfl k19 (by decide) hr lt0
    have lt : l < 40 := by omega
    obtain ⟨X1, Y1, p1, n1, n1', h1, K1, -, pp1, -, -⟩ := h0.next
    have h1w := h1.y (3 * l) 4
    have K1w : TK X1 (sI Y1 222 (3 * l) 4) := K1.y rfl rfl rfl rfl
    have l40' : nI l < 40 := (nI_ltI (b := 40) (by omega) (by decide)).mpr lt
    have n40 : ¬ nI l = 40 := fun z => absurd ((nI_eq (b := 40) (by omega) (by decide)).mp z) (by omega)
    have q1 := k_namB (s := 0) (a := 0) h0 rfl (by decide) ok.c0.1 (by omega) n1
    have s0 : (sI Y1 222 (3 * l) 4).1 220 0 = nI (ct (bP X0 4) 0) := by rw [h1w.S.1]; exact hW.r.n0 ok
    have cm : ∀ {v : Int32} {Z : X_}, fX10_named 4 0 X1 = some (v, Z) → fX0_readLine X = (it (v = (-1)) (re 0) (gI 126 3 fun v6 => (wA 127 40 v6 19 (gI 126 3 fun v7 => (wA 128 40 v7 v (gI 126 3 fun v8 => (wA 129 40 v8 0 (ca fX10_next fun _ => (re 1))))))))) Z := fun e => by
      unfold fX0_readLine
      rw [gI_e, show X.1 1 8 = 19 from k19, ca_s (show fX0_isAct 19 X = some (1, X) from rfl), it_f (by decide), gI_e, lx, it_t l40', jo1_e, it_f (by decide), ca_s sort19, ca_s (q1.trans e)]
      rfl
    have rf : ∀ {v : Int32} {Z : X_}, fX12_takesName 0 (nI (ct (bP X0 4) 0)) (sI Y1 222 (3 * l) 4) = some (v, Z) → fX12_bookLine Y = (gI 218 18 fun v6 => (wA 222 135 ((3 * nI l) + 1) v6 (it (v = 0) (rz v) (rz v)))) Z := fun e => by
      rw [hr]
      unfold n_bk
      rw [it_t (by decide), gI_e, ly, it_f n40, ca_s n1', ix_lm, wA_n (by omega) (by decide), jo1_e, it_t (by decide), it_f (by decide), it_f (by decide), rA_l (by decide) (by decide), s0, ca_s e, ← ix_lm]
      rfl
    rcases h1w.look K1w (s := 0) (f := 0) (c := ct (bP X0 4) 0) (a := 0) (af := 0) (am := nI (ct (bP X0 4) 0)) rfl (by decide) ok.c0.1 (by omega) rfl (by omega) rfl (fun i hi => by have := hW.n.1 i hi; rwa [Nat.zero_add] at this ⊢) with ⟨X3, Y3, d1, d2, d3⟩ | ⟨k, k1, d1, d2, -⟩
    · refine BE.bad (X1 := X3) (Y1 := sI Y3 222 (3 * l + 1) (Y3.1 218 18)) ?_ ?_ ((h1w.fail d3).y _ _)
      · rw [cm d1, it_t rfl]; rfl
      · rw [rf (e_takesName0 d2), gI_e, ix_lm, ix_al, wA_n (by omega) (by decide), it_t rfl, rz_0]
    · obtain ⟨X5, Y5, p5, n5, n5', h5, K5, t5, pp5, sg5, -⟩ := ((h1w.got (nI k)).x3 l 19 (nI k) 0).next
      have hf := h5.y (3 * l + 1) (nI k)
      refine ⟨1, X5, sI Y5 222 (3 * l + 1) (nI k), ?_, ?_, Or.inr ⟨rfl, p5, ⟨_, _, _, _, hf, BR.add (a := 4) (b := nI k) hR ⟨k, rfl, rfl, Or.inr (Or.inr (Or.inr (Or.inr (Or.inl ⟨rfl, rfl, k1⟩))))⟩ (fun j hj => by rw [upS_ne (by omega), upS_ne (by omega)]) (by rw [upS_ne (by omega), upS_eq]) upS_eq rfl⟩, K5.y rfl rfl rfl rfl, by omega, fun z => ?_⟩⟩
      · rw [cm d1, it_f (nI_m1 (by omega)), gI_e, h1.2.2.2.2.2.1, wA_n lt (by decide), gI_e, sI_ne (by omega), h1.2.2.2.2.2.1, wA_n lt (by decide), gI_e, sI_ne (by omega), sI_ne (by omega), h1.2.2.2.2.2.1, wA_n lt (by decide), ca_s n5]; rfl
      · rw [rf (e_takesName (v := 0) d2 n5'), gI_e, t5, sI_eq, ix_lm, ix_al, wA_n (by omega) (by decide), it_f (by decide), rz_1]
      · obtain ⟨e, a1, a2, a3, a4⟩ := sg5 z
        exact ⟨e, a1, by omega, a3, a4⟩
  rw [if_neg k19] at hr
  by_cases k20 : X.1 1 8 = nI 20
  · rw [if_pos k20] at hr
    by_cases lt0 : ¬ l < 40
    · exact full 20 5 rfl k20 (by decide) hr lt0
    have lt : l < 40 := by omega
    obtain ⟨X1, Y1, p1, n1, n1', h1, K1, -, pp1, -, -⟩ := h0.next
    have h1w := h1.y (3 * l) 5
    have K1w : TK X1 (sI Y1 222 (3 * l) 5) := K1.y rfl rfl rfl rfl
    have l40' : nI l < 40 := (nI_ltI (b := 40) (by omega) (by decide)).mpr lt
    have n40 : ¬ nI l = 40 := fun z => absurd ((nI_eq (b := 40) (by omega) (by decide)).mp z) (by omega)
    have q1 : fX10_nextNumber 1 60 X = k_nu 1 60 X1 := (k_nextNumber h0.b.ok).trans (ca_s n1)
    have cm : ∀ {v : Int32} {Z : X_}, k_nu 1 60 X1 = some (v, Z) → fX0_readLine X = (it (v = (-1)) (re 0) (gI 126 3 fun v6 => (wA 127 40 v6 20 (gI 126 3 fun v7 => (wA 128 40 v7 v (gI 126 3 fun v8 => (wA 129 40 v8 0 (ca fX10_next fun _ => (re 1))))))))) Z := fun e => by
      unfold fX0_readLine
      rw [gI_e, show X.1 1 8 = 20 from k20, ca_s (show fX0_isAct 20 X = some (1, X) from rfl), it_f (by decide), gI_e, lx, it_t l40', jo1_e, it_t rfl, ca_s (q1.trans e)]
      rfl
    have rf : ∀ {v : Int32} {Z : X_}, fX12_takes 1 60 (sI Y1 222 (3 * l) 5) = some (v, Z) → fX12_bookLine Y = (gI 218 18 fun v6 => (wA 222 135 ((3 * nI l) + 1) v6 (it (v = 0) (rz v) (rz v)))) Z := fun e => by
      rw [hr]
      unfold n_bk
      rw [it_t (by decide), gI_e, ly, it_f n40, ca_s n1', ix_lm, wA_n (by omega) (by decide), jo1_e, it_t (by decide), it_f (by decide), it_t (by decide), ca_s e, ← ix_lm]
      rfl
    rcases r_takes (la := 1) (lb := 60) (a := 1) (b := 60) K1w rfl rfl (by decide) (by decide) with ⟨X3, Y3, d1, d2, d3⟩ | ⟨k, k1, k2, d1, d2, -⟩
    · refine BE.bad (X1 := X3) (Y1 := sI Y3 222 (3 * l + 1) (Y3.1 218 18)) ?_ ?_ ((h1w.fail d3).y _ _)
      · rw [cm d1, it_t rfl]; rfl
      · rw [rf d2, gI_e, ix_lm, ix_al, wA_n (by omega) (by decide), it_t rfl, rz_0]
    · obtain ⟨X5, Y5, p5, n5, n5', h5, K5, t5, pp5, sg5, -⟩ := ((h1w.got (nI k)).x3 l 20 (nI k) 0).next
      have hf := h5.y (3 * l + 1) (nI k)
      refine ⟨1, X5, sI Y5 222 (3 * l + 1) (nI k), ?_, ?_, Or.inr ⟨rfl, p5, ⟨_, _, _, _, hf, BR.add (a := 5) (b := nI k) hR ⟨k, rfl, rfl, Or.inr (Or.inr (Or.inr (Or.inr (Or.inr ⟨rfl, rfl, k1, k2⟩))))⟩ (fun j hj => by rw [upS_ne (by omega), upS_ne (by omega)]) (by rw [upS_ne (by omega), upS_eq]) upS_eq rfl⟩, K5.y rfl rfl rfl rfl, by omega, fun z => ?_⟩⟩
      · rw [cm d1, it_f (nI_m1 (by omega)), gI_e, h1.2.2.2.2.2.1, wA_n lt (by decide), gI_e, sI_ne (by omega), h1.2.2.2.2.2.1, wA_n lt (by decide), gI_e, sI_ne (by omega), sI_ne (by omega), h1.2.2.2.2.2.1, wA_n lt (by decide), ca_s n5]; rfl
      · rw [rf (d2.trans (ca_s n5')), gI_e, t5, sI_eq, ix_lm, ix_al, wA_n (by omega) (by decide), it_f (by decide), rz_1]
      · obtain ⟨e, a1, a2, a3, a4⟩ := sg5 z
        exact ⟨e, a1, by omega, a3, a4⟩
  rw [if_neg k20] at hr
  refine BE.bad (X1 := wX X 1) (Y1 := wY Y 1) ?_ ?_ (h0.fail (FL.w K.1))
  · unfold fX0_readLine
    rw [gI_e, ca_s (act_no k13 k14 k15 k16 k19 k20), it_t rfl, ca_s (e_wrong 1), rz_0]
  · rw [hr]
    unfold n_bk
    rw [it_f (by decide), ca_s (e_bad 1), rz_0]
end BM
