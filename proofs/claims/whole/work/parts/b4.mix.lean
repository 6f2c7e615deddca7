/-! the component's cells out of one, the reference's out of the other -/
section MX
variable {X Y X1 Y1 X0 Y0 : X_} {n p : Nat} {D : m_V} {N : m_L} {S : Nat → Int32} {M : Nat → Int64}
def mx (X Y : X_) : X_ := (fun a => if a < 218 then X.1 a else Y.1 a, fun a => if a < 218 then X.2.1 a else Y.2.1 a, X.2.2)
theorem mx_c {a : Nat} (h : a < 218) : (mx X Y).1 a = X.1 a := if_pos h
theorem mx_m {a : Nat} (h : 218 ≤ a) : (mx X Y).1 a = Y.1 a := if_neg (by omega)
theorem mx_cJ {a : Nat} (h : a < 218) : (mx X Y).2.1 a = X.2.1 a := if_pos h
theorem mx_mJ {a : Nat} (h : 218 ≤ a) : (mx X Y).2.1 a = Y.2.1 a := if_neg (by omega)
def sameM (X Y : X_) : Prop := ∀ a, 218 ≤ a → Y.1 a = X.1 a ∧ Y.2.1 a = X.2.1 a
def sameK (X Y : X_) : Prop := (∀ a, a < 218 → Y.1 a = X.1 a ∧ Y.2.1 a = X.2.1 a) ∧ Y.2.2 = X.2.2
theorem mx_self (h : sameK X Y) : mx X Y = Y := by
  refine Prod.ext ?_ (Prod.ext ?_ h.2.symm)
  · funext a
    by_cases c : a < 218
    · rw [mx_c c, (h.1 a c).1]
    · rw [mx_m (by omega)]
  · funext a
    by_cases c : a < 218
    · rw [mx_cJ c, (h.1 a c).2]
    · rw [mx_mJ (by omega)]
/-- both side by side: then one behind the other -/
theorem sim_mix {f g : RM Int32} (h : ∀ X Y, Inv X → sameM X Y → ∃ v X1 Y1, f X = some (v, X1) ∧ g Y = some (v, Y1) ∧ sameM X X1 ∧ sameK Y Y1 ∧ Inv (mx X1 Y1)) : Sim f g := fun X hX => by
  obtain ⟨v, X1, -, a1, -, a3, -⟩ := h X X hX (fun _ _ => ⟨rfl, rfl⟩)
  obtain ⟨v', X1', Y1, b1, b2, -, b4, b5⟩ := h X X1 hX a3
  rw [a1] at b1
  obtain ⟨rfl, rfl⟩ := Prod.mk.inj (Option.some.inj b1)
  rw [mx_self b4] at b5
  exact ⟨v, X1, Y1, a1, b2, b5⟩
theorem DR.wf (h : DR p D N S M) (hp : p ≤ 1460) : wfL D ∧ RLa D S ∧ rN D N M := by
  have nm := h.nm
  obtain ⟨C, D0, D1, D2, D3, D4, D6⟩ := h
  obtain ⟨a, b, ⟨n, e, hn⟩, ho⟩ := C
  refine ⟨⟨a, ⟨n, e, by omega⟩, ho, fun k hk => (D0 k hk).1, fun k hk => (D1 k hk).1, fun k hk => ?_, fun g hg => ?_, fun r hr => ?_, D4.2.1, fun t ht => (D6 t ht).1⟩, ⟨b, fun k hk => (D0 k hk).2.1, fun k hk => (D1 k hk).2.1, fun k hk => (D2 k hk).2.1, fun g hg => (D3 g hg).2.1, fun r hr => (D4.1 r hr).2.1, fun t ht => (D6 t ht).2.1⟩, nm⟩
  · obtain ⟨⟨⟨a, b, ea, ha, eb, hb, -⟩, h7, h8⟩, -⟩ := D2 k hk
    exact ⟨⟨a, ea, ha⟩, ⟨b, eb, hb⟩, h7, h8⟩
  · obtain ⟨⟨h1, h2⟩, -, h3, -⟩ := D3 g hg
    exact ⟨h1, h2, h3⟩
  · exact (D4.1 r hr).1
theorem DR.r18 {D' : m_V} (h : DR p D N S M) (hr : ∀ j, ¬ j = 18 → D' j = D j) : DR p D' N S M := by
  obtain ⟨C, D0, D1, D2, D3, D4, D6⟩ := h
  have bd := C.1.bd
  have e1 : D' 1 = D 1 := hr 1 (by decide)
  have cc : ∀ s, ct D' s = ct D s := fun s => ct_row e1
  have le : ∀ s, ct D s ≤ ct D' s := fun s => by rw [cc s]; exact Nat.le_refl _
  refine ⟨?_, D0.of bd.1 (cc 0) (hr 3 (by decide)) (fun _ _ _ => rfl) (fun _ _ _ => rfl) (fun _ _ => rfl), D1.of bd.2.1 (cc 1) (le 0) (hr 4 (by decide)) (fun _ _ _ => rfl) (fun _ _ _ => rfl) (fun _ _ _ => rfl), D2.of bd.2.2.1 (cc 2) (le 0) (le 1) (hr 5 (by decide)) (hr 6 (by decide)) (hr 7 (by decide)) (hr 8 (by decide)) (fun _ _ _ => rfl), D3.of bd.2.2.2.1 (cc 3) (le 0) (hr 9 (by decide)) (hr 10 (by decide)) (fun _ _ _ => rfl) (fun _ _ _ => rfl) (fun _ _ _ => rfl), D4.of bd.2.2.2.2.1 (cc 4) (le 0) (le 1) (le 3) (fun j a b => hr j (by omega)) (fun _ _ _ => rfl) (fun _ _ _ => rfl) (fun _ _ _ => rfl), D6.of bd.2.2.2.2.2 (cc 6) (le 0) (hr 19 (by decide)) (hr 20 (by decide)) (fun _ _ _ => rfl) (fun _ _ _ => rfl) (fun _ _ _ => rfl)⟩
  unfold dc okP
  rw [cc, cc, cc, cc, cc, cc, e1]
  exact C
theorem clash_18 {c : Nat} : ∀ j, ¬ j = 18 → p_clash D c j = D j := fun j hj => by
  funext k
  exact if_neg (fun z => hj z.1)
theorem clash_C (ok : okP D) : wfC (p_clash D (ct D 4)) := fun r hr => by
  have e : ∀ s, ct (p_clash D (ct D 4)) s = ct D s := fun s => ct_row (clash_18 1 (by decide))
  rw [e] at hr ⊢
  have : p_clash D (ct D 4) 18 r = bo (fun q => decide (q ≠ r) && p_conflict D r q) (ct D 4) := if_pos ⟨rfl, hr⟩
  rw [this]
  refine bo_congr _ (fun q hq => ?_)
  unfold p_conflict
  rw [clash_18 11 (by decide), clash_18 14 (by decide), clash_18 15 (by decide), clash_18 16 (by decide)]
/-- as it begins -/
theorem start_Wd {P V Q : m_V} (hL : wfL P) (hC : wfC P) (hR : RLa P S) (hN : rN P N M) (v0 : ∀ k, 1 ≤ k → k ≤ 7 → V 0 k = 0) (v1 : ∀ k, k < 10 → V 1 k = 0) (v4 : ∀ k, k < 5 → V 4 k = P 19 k) (v5 : ∀ k, k < 5 → V 5 k = 0) (v6 : ∀ k, k < 5 → V 6 k = 0) (s0 : ∀ k, 226 ≤ k → k < 469 → ¬ (271 ≤ k ∧ k < 271 + ct P 6) → S k = 0) (s1 : ∀ t, t < ct P 6 → S (271 + t) = P 19 t + 1) (q0 : Q 0 0 = 0) : Wd P N V Q S M := by
  have bd := hL.ok.bd
  have lz : ∀ m, lowB 0 m := fun m i _ _ => b_0 i
  refine ⟨hL, hC, hR, hN, ⟨⟨?_, ?_, ?_, ?_, ?_, ?_⟩, fun r hr => ⟨fun e => ?_, fun e => ?_⟩, fun t ht => ?_⟩, ⟨⟨?_, ?_, ?_, ?_, fun k hk => ?_, fun r hr => ⟨?_, ?_, ?_⟩, fun t ht => ⟨?_, ?_, ?_⟩⟩, ?_⟩, ⟨0, ?_, by decide, fun t ht => ⟨0, ?_, Nat.le_refl _⟩⟩, Or.inl ⟨?_, q0⟩⟩
  · rw [v0 3 (by decide) (by decide)]; exact lz _
  · rw [v0 4 (by decide) (by decide)]; exact lz _
  · rw [v0 5 (by decide) (by decide)]; exact lz _
  · intro i hi z
    rw [v0 4 (by decide) (by decide), b_0] at z
    exact absurd z.1 (by decide)
  · rw [v0 6 (by decide) (by decide)]; exact lz _
  · rw [v0 7 (by decide) (by decide)]; exact lz _
  · rw [v1 r (by omega)] at e; exact absurd e (by decide)
  · rw [v1 r (by omega)] at e; exact absurd e (by decide)
  · rw [v4 t (by omega)]; exact Or.inr (hL.v t ht).1
  · rw [s0 226 (by omega) (by omega) (by omega), v0 1 (by decide) (by decide)]
  · rw [s0 227 (by omega) (by omega) (by omega), v0 2 (by decide) (by decide)]
  · rw [s0 228 (by omega) (by omega) (by omega), v0 3 (by decide) (by decide)]
  · rw [s0 281 (by omega) (by omega) (by omega), v0 6 (by decide) (by decide)]
  · rw [s0 _ (by omega) (by omega) (by omega)]
    unfold s_failing
    rw [v0 4 (by decide) (by decide), v0 5 (by decide) (by decide), b_tst (by omega), b_0]; rfl
  · rw [s0 _ (by omega) (by omega) (by omega), v1 r (by omega)]
  · rw [s0 _ (by omega) (by omega) (by omega), v1 r (by omega), if_neg (by decide)]
  · rw [s0 _ (by omega) (by omega) (by omega), v1 r (by omega), if_neg (by decide)]
  · rw [s1 t ht, v4 t (by omega)]
  · rw [s0 _ (by omega) (by omega) (by omega), v5 t (by omega)]
  · rw [s0 _ (by omega) (by omega) (by omega), v6 t (by omega)]
  · rw [s0 282 (by omega) (by omega) (by omega), v0 7 (by decide) (by decide)]
  · rw [v0 1 (by decide) (by decide)]; rfl
  · rw [v6 t (by omega)]; rfl
  · exact s0 288 (by omega) (by omega) (by omega)
/-- the reference takes the draft over -/
def fin1 (S : Nat → Int32) (f : Nat → Int32) : Nat → Int32 := fun k => if k < 469 then (if k < 226 then S k else 0) else f k
def fin2 (t : Nat) (g : Nat → Int32) : Nat → Int32 := fun k => if 271 ≤ k ∧ k < 271 + t then g (216 + (k - 271)) + 1 else g k
def finJ (g : Nat → Int64) : Nat → Int64 := fun k => if k < 41 then g (41 + k) else g k
def fFIN : RM Int32 := (lz1 (fun L80 x2 => (it (469 ≤ x2) (lz1 (fun L118 x3 => (it (41 ≤ x3) (lz1 (fun L147 x4 => (rA 220 469 6 fun v5 => (it (v5 ≤ x4) (pI 218 23 0 (gI 218 19 fun v6 => (re v6))) (rA 220 469 (216 + x4) fun v7 => (wA 220 469 (271 + x4) (v7 + 1) (L147 (x4 + 1))))))) FU 0) (rJ 223 82 (41 + x3) fun v8 => (wJ 223 82 x3 v8 (L118 (x3 + 1)))))) FU 0) (it (226 ≤ x2) (wA 220 469 x2 0 (L80 (x2 + 1))) (rA 221 226 x2 fun v9 => (wA 220 469 x2 v9 (L80 (x2 + 1))))))) FU 0)
theorem e_FIN {t : Nat} (ht : t ≤ 5) (h6 : Y.1 221 6 = nI t) : fFIN Y = some (Y.1 218 19, sI (setR (setJ Y 223 (finJ (Y.2.1 223))) 220 (fin2 t (fin1 (Y.1 221) (Y.1 220)))) 218 23 0) := by
  have st3 : ∀ Z : X_, Z.1 220 6 = nI t → (lz1 (fun L147 x4 => (rA 220 469 6 fun v5 => (it (v5 ≤ x4) (pI 218 23 0 (gI 218 19 fun v6 => (re v6))) (rA 220 469 (216 + x4) fun v7 => (wA 220 469 (271 + x4) (v7 + 1) (L147 (x4 + 1))))))) FU 0) Z = some (Z.1 218 19, sI (setR Z 220 (fin2 t (Z.1 220))) 218 23 0) := fun Z hZ => by
    have z0 : (fun i => setR Z 220 (fin2 i (Z.1 220))) 0 = Z := by
      refine setR_self ?_
      funext k
      exact (if_neg (by omega)).symm
    conv => lhs; rw [← z0]
    refine lz1_X (n := t) (fun i => setR Z 220 (fin2 i (Z.1 220))) (by omega) (fun i L hi => ?_) (fun L => ?_)
    · rw [rA_l (by decide) (by decide), setR_eq, show fin2 i (Z.1 220) 6 = nI t from (if_neg (by omega)).trans hZ, it_f (nI_ge hi (by omega)), ix_la, rA_n (by omega) (by decide), setR_eq, ix_la, wA_n (by omega) (by decide), setR_s, nI_1]
      congr 2
      funext k
      by_cases e : k = 271 + i
      · subst e
        rw [upS_eq]
        unfold fin2
        rw [if_neg (by omega), if_pos (by omega), show 271 + i - 271 = i by omega]
      · rw [upS_ne e]
        unfold fin2
        exact if_iff ⟨fun z => by omega, fun z => by omega⟩
    · rw [rA_l (by decide) (by decide), setR_eq, show fin2 t (Z.1 220) 6 = nI t from (if_neg (by omega)).trans hZ, it_t (nI_le (Nat.le_refl _) (by omega)), pI_e, gI_e, sI_ne (by decide), setR_ne (by decide)]; rfl
  have st2 : ∀ Z : X_, Z.1 220 6 = nI t → (lz1 (fun L118 x3 => (it (41 ≤ x3) (lz1 (fun L147 x4 => (rA 220 469 6 fun v5 => (it (v5 ≤ x4) (pI 218 23 0 (gI 218 19 fun v6 => (re v6))) (rA 220 469 (216 + x4) fun v7 => (wA 220 469 (271 + x4) (v7 + 1) (L147 (x4 + 1))))))) FU 0) (rJ 223 82 (41 + x3) fun v8 => (wJ 223 82 x3 v8 (L118 (x3 + 1)))))) FU 0) Z = some (Z.1 218 19, sI (setR (setJ Z 223 (finJ (Z.2.1 223))) 220 (fin2 t (Z.1 220))) 218 23 0) := fun Z hZ => by
    have z0 : (fun i => setJ Z 223 (fun k => if k < i then Z.2.1 223 (41 + k) else Z.2.1 223 k)) 0 = Z := by
      refine setJ_self ?_
      funext k
      exact (if_neg (Nat.not_lt_zero k)).symm
    conv => lhs; rw [← z0]
    refine lz1_X (n := 41) (fun i => setJ Z 223 (fun k => if k < i then Z.2.1 223 (41 + k) else Z.2.1 223 k)) (by decide) (fun i L hi => ?_) (fun L => ?_)
    · rw [it_f (nL_ge hi (by decide)), ix_la, rJ_n (by omega) (by decide), setJ_eq, if_neg (by omega), wJ_n (by omega) (by decide), setJ_s, nI_1]
      congr 2
      funext k
      unfold upJ
      by_cases e : k = i
      · subst e; rw [if_pos rfl, if_pos (by omega)]
      · rw [if_neg e]
        exact if_iff ⟨fun z => by omega, fun z => by omega⟩
    · rw [it_t (nL_le (by decide))]
      exact st3 (setJ Z 223 (finJ (Z.2.1 223))) hZ
  unfold fFIN
  have z0 : (fun i => setR Y 220 (fun k => if k < i then (if k < 226 then Y.1 221 k else 0) else Y.1 220 k)) 0 = Y := by
    refine setR_self ?_
    funext k
    exact (if_neg (Nat.not_lt_zero k)).symm
  conv => lhs; rw [← z0]
  refine lz1_X (n := 469) (fun i => setR Y 220 (fun k => if k < i then (if k < 226 then Y.1 221 k else 0) else Y.1 220 k)) (by decide) (fun i L hi => ?_) (fun L => ?_)
  · have up : ∀ v, v = (if i < 226 then Y.1 221 i else 0) → upS (fun k => if k < i then (if k < 226 then Y.1 221 k else 0) else Y.1 220 k) i v = fun k => if k < i + 1 then (if k < 226 then Y.1 221 k else 0) else Y.1 220 k := fun v hv => by
      funext k
      by_cases e : k = i
      · subst e; rw [upS_eq, if_pos (by omega)]; exact hv
      · rw [upS_ne e]
        exact if_iff ⟨fun z => by omega, fun z => by omega⟩
    rw [it_f (nL_ge hi (by decide)), it_e, nI_1]
    by_cases c : 226 ≤ i
    · rw [if_pos (show 226 ≤ nI i from nI_le (a := 226) c (by omega)), wA_n hi (by decide), setR_s, up 0 (by rw [if_neg (by omega)])]
    · rw [if_neg (show ¬ 226 ≤ nI i from fun z => c ((nI_leI (a := 226) (by decide) (by omega)).mp z)), rA_n (by omega) (by decide), setR_ne (by decide), wA_n hi (by decide), setR_s, up _ (by rw [if_pos (by omega)])]
  · rw [it_t (nL_le (by decide)), st2 _ (by rw [setR_eq, if_pos (by decide), if_pos (by decide)]; exact h6)]
    congr 2
    show sI (setR (setJ (setR Y 220 _) 223 _) 220 _) 218 23 0 = _
    congr 1
    refine Prod.ext ?_ rfl
    funext a
    by_cases e : a = 220
    · subst e
      rw [setR_eq, setR_eq, setR_eq]; rfl
    · rw [setR_ne e, setR_ne e]
      exact setR_ne e
end MX
