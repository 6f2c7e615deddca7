/-! image and restore: both -/
section IM
variable {X : X_}
def dj (a n b m : Nat) : Prop := a + n ≤ b ∨ b + m ≤ a
def setJ (X : X_) (a : Nat) (f : Nat → Int64) : X_ := (X.1, fun b => if b = a then f else X.2.1 b, X.2.2)
theorem setJ_1 {a : Nat} {f : Nat → Int64} : (setJ X a f).1 = X.1 := rfl
theorem setJ_g {a : Nat} {f : Nat → Int64} : (setJ X a f).2.2 = X.2.2 := rfl
theorem setJ_eq {a : Nat} {f : Nat → Int64} : (setJ X a f).2.1 a = f := by simp [setJ]
theorem setJ_ne {a b : Nat} {f : Nat → Int64} (h : ¬ b = a) : (setJ X a f).2.1 b = X.2.1 b := if_neg h
theorem setJ_self {a : Nat} {f : Nat → Int64} (h : X.2.1 a = f) : setJ X a f = X := by
  refine Prod.ext rfl (Prod.ext (funext fun b => ?_) rfl)
  by_cases c : b = a
  · subst c; rw [setJ_eq, h]
  · exact if_neg c
def upJ (f : Nat → Int64) (k : Nat) (v : Int64) : Nat → Int64 := fun j => if j = k then v else f j
theorem setJ_s {a k : Nat} {f : Nat → Int64} {v : Int64} : sJ (setJ X a f) a k v = setJ X a (upJ f k v) := by
  refine Prod.ext rfl (Prod.ext (funext fun b => funext fun j => ?_) rfl)
  rw [sJ_j]
  by_cases c : b = a
  · subst c
    rw [setJ_eq, setJ_eq, upJ]
    by_cases d : j = k
    · rw [if_pos ⟨rfl, d⟩, if_pos d]
    · rw [if_neg (fun e => d e.2), if_neg d]
  · rw [if_neg (fun e => c e.1), setJ_ne c, setJ_ne c]
def cpJ (d n : Nat) (g f : Nat → Int64) : Nat → Int64 := fun j => if d ≤ j ∧ j < d + n then g (j - d) else f j
theorem cpJ_0 {d : Nat} {g f : Nat → Int64} : cpJ d 0 g f = f := by
  funext j
  have : ¬ (d ≤ j ∧ j < d + 0) := by omega
  exact if_neg this
theorem cpJ_s {d n : Nat} {g f : Nat → Int64} : upJ (cpJ d n g f) (d + n) (g n) = cpJ d (n + 1) g f := by
  funext j
  unfold upJ cpJ
  by_cases c : j = d + n
  · subst c
    rw [if_pos rfl, if_pos (by omega), Nat.add_sub_cancel_left]
  · rw [if_neg c]
    by_cases e : d ≤ j ∧ j < d + n
    · rw [if_pos e, if_pos (by omega)]
    · rw [if_neg e, if_neg (by omega)]
theorem cpJ_in {d n j : Nat} {g f : Nat → Int64} (h : j < n) : cpJ d n g f (d + j) = g j := by
  unfold cpJ
  rw [if_pos (by omega), Nat.add_sub_cancel_left]
/-- a row copied to another, whole -/
theorem e_cpI {α : Type} {a b na nb d e n : Nat} {K : RM α} (hab : ¬ a = b) (hna : na < 2 ^ 31) (hnb : nb < 2 ^ 31) (hn : n < 5000) (ha : e + n ≤ na) (hb : d + n ≤ nb) {B : (Int32 → RM α) → Int32 → RM α}
    (hB : ∀ (L : Int32 → RM α) i Y, i < n → B L (nI i) Y = (rA a na (nI (e + i)) fun v => wA b nb (nI (d + i)) v (L (nI (i + 1)))) Y) (hE : ∀ (L : Int32 → RM α) Y, B L (nI n) Y = K Y) : lz1 B FU 0 X = K (setR X b (cpN d n (fun i => X.1 a (e + i)) (X.1 b))) := by
  have h0 : (fun i => setR X b (cpN d i (fun i => X.1 a (e + i)) (X.1 b))) 0 = X := by
    show setR X b (cpN d 0 _ _) = X
    rw [cpN_0, setR_self rfl]
  conv => lhs; rw [← h0]
  refine lz1_X (n := n) (fun i => setR X b (cpN d i (fun i => X.1 a (e + i)) (X.1 b))) hn (fun i L hi => ?_) (fun L => hE L _)
  rw [hB _ _ _ hi, rA_n (by omega) hna, setR_ne hab, wA_n (by omega) hnb, setR_s]
  exact congrArg (fun f => L (nI (i + 1)) (setR X b f)) cpN_s
theorem e_cpJ {α : Type} {a b na nb d e n : Nat} {K : RM α} (hab : ¬ a = b) (hna : na < 2 ^ 31) (hnb : nb < 2 ^ 31) (hn : n < 5000) (ha : e + n ≤ na) (hb : d + n ≤ nb) {B : (Int32 → RM α) → Int32 → RM α}
    (hB : ∀ (L : Int32 → RM α) i Y, i < n → B L (nI i) Y = (rJ a na (nI (e + i)) fun v => wJ b nb (nI (d + i)) v (L (nI (i + 1)))) Y) (hE : ∀ (L : Int32 → RM α) Y, B L (nI n) Y = K Y) : lz1 B FU 0 X = K (setJ X b (cpJ d n (fun i => X.2.1 a (e + i)) (X.2.1 b))) := by
  have h0 : (fun i => setJ X b (cpJ d i (fun i => X.2.1 a (e + i)) (X.2.1 b))) 0 = X := by
    show setJ X b (cpJ d 0 _ _) = X
    rw [cpJ_0, setJ_self rfl]
  conv => lhs; rw [← h0]
  refine lz1_X (n := n) (fun i => setJ X b (cpJ d i (fun i => X.2.1 a (e + i)) (X.2.1 b))) hn (fun i L hi => ?_) (fun L => hE L _)
  rw [hB _ _ _ hi, rJ_n (by omega) hna, setJ_ne hab, wJ_n (by omega) hnb, setJ_s]
  exact congrArg (fun f => L (nI (i + 1)) (setJ X b f)) cpJ_s
theorem eqN.copy (O U : m_L) (W : m_L) (h : W 2 = p_copyN O U 2) : eqN O W := fun k hk => by
  rw [h]
  exact if_pos hk
theorem k_cp7 {u u' : Nat} {Y : X_} (d : dj u' 4 u 4) (h : Y.1 u 0 = 0 ∨ Y.1 u 0 = 1) : ∃ Z, fX7_copyFrom u' u Y = some ((), Z) ∧ (∀ a, ¬ (u' ≤ a ∧ a < u' + 4) → Z.1 a = Y.1 a) ∧ Z.2 = Y.2 ∧ eqQ (bQ Y u) (bQ Z u') := by
  unfold dj at d
  have ev : fX7_copyFrom u' u Y = some ((), setR (setR (setR (sI (sI (sI Y u' 0 (Y.1 u 0)) u' 1 (Y.1 u 1)) u' 2 (Y.1 u 2)) (u' + 1) (cpy 40 (Y.1 (u + 1)) (Y.1 (u' + 1)))) (u' + 2) (cpy 40 (Y.1 (u + 2)) (Y.1 (u' + 2)))) (u' + 3) (cpy 40 (Y.1 (u + 3)) (Y.1 (u' + 3)))) := by
    unfold fX7_copyFrom
    rw [gI_e, pZ_e h, gI_e, sI_row (by omega), pI_e, gI_e, sI_row (by omega), sI_row (by omega), pI_e]
    have row : ∀ a b Z, fX11_copyRow a b 40 Z = some ((), setR Z b (cpy 40 (Z.1 a) (Z.1 b))) := fun a b Z => rfl
    rw [ca_s (row _ _ _), ca_s (row _ _ _), ca_s (row _ _ _)]
    rw [setR_ne (show ¬ u + 3 = u' + 2 by omega), setR_ne (show ¬ u + 3 = u' + 1 by omega), setR_ne (show ¬ u' + 3 = u' + 2 by omega), setR_ne (show ¬ u' + 3 = u' + 1 by omega), setR_ne (show ¬ u + 2 = u' + 1 by omega), setR_ne (show ¬ u' + 2 = u' + 1 by omega)]
    have s3 : ∀ c, ¬ c = u' → (sI (sI (sI Y u' 0 (Y.1 u 0)) u' 1 (Y.1 u 1)) u' 2 (Y.1 u 2)).1 c = Y.1 c := fun c hc => by rw [sI_row hc, sI_row hc, sI_row hc]
    rw [s3 _ (by omega), s3 _ (by omega), s3 _ (by omega), s3 _ (by omega), s3 _ (by omega), s3 _ (by omega)]
    rfl
  refine ⟨_, ev, fun a ha => ?_, rfl, ?_⟩
  · rw [setR_ne (by omega), setR_ne (by omega), setR_ne (by omega), sI_row (by omega), sI_row (by omega), sI_row (by omega)]
  · refine ⟨?_, ?_, fun i hi => ⟨?_, ?_, ?_⟩⟩
    · show (setR _ _ _).1 u' 0 = Y.1 u 0
      rw [setR_ne (by omega), setR_ne (by omega), setR_ne (by omega), sI_ne (by omega), sI_ne (by omega), sI_eq]
    · show (setR _ _ _).1 u' 2 = Y.1 u 2
      rw [setR_ne (by omega), setR_ne (by omega), setR_ne (by omega), sI_eq]
    · show (setR _ _ _).1 (u' + 1) i = Y.1 (u + 1) i
      rw [setR_ne (by omega), setR_ne (by omega), setR_eq]
      exact if_pos hi
    · show (setR _ _ _).1 (u' + 2) i = Y.1 (u + 2) i
      rw [setR_ne (by omega), setR_eq]
      exact if_pos hi
    · show (setR _ _ _).1 (u' + 3) i = Y.1 (u + 3) i
      rw [setR_eq]
      exact if_pos hi
/-- a plan, a state and a sentence, copied -/
theorem k_cp3 {p p' s s' u u' : Nat} (d1 : dj p' 21 p 21) (d2 : dj s' 7 s 7) (d3 : dj u' 4 u 4) (d4 : dj p' 21 s 7) (d5 : dj p' 21 u 5) (d6 : dj s' 7 u 5) (d7 : dj p' 21 s' 7) (d8 : dj p' 21 u' 5) (d9 : dj s' 7 u' 5) (h : X.1 u 0 = 0 ∨ X.1 u 0 = 1) :
    ∃ Y, (∀ K : RM Unit, (ca (fX5_copyFrom p' p) fun _ => (ca (fX8_copyFrom s' s) fun _ => (ca (fX7_copyFrom u' u) fun _ => K))) X = K Y) ∧ (∀ a, ¬ (p' ≤ a ∧ a < p' + 21) → ¬ (s' ≤ a ∧ a < s' + 7) → ¬ (u' ≤ a ∧ a < u' + 4) → Y.1 a = X.1 a) ∧ (∀ a, ¬ (p' ≤ a ∧ a < p' + 21) → Y.2.1 a = X.2.1 a) ∧ Y.2.2 = X.2.2 ∧ eqP (bP X p) (bP Y p') ∧ eqN (bPJ X p) (bPJ Y p') ∧ eqV (bV X s) (bV Y s') ∧ eqQ (bQ X u) (bQ Y u') := by
  unfold dj at d1 d2 d3 d4 d5 d6 d7 d8 d9
  have c5 : fX5_copyFrom p' p X = some ((), bk X p' 21 (p_copy (bP X p) (bP X p')) (p_copyN (bPJ X p) (bPJ X p'))) := gd_t (by omega)
  generalize hX1 : bk X p' 21 (p_copy (bP X p) (bP X p')) (p_copyN (bPJ X p) (bPJ X p')) = X1 at c5
  have r1 : ∀ a, ¬ (p' ≤ a ∧ a < p' + 21) → X1.1 a = X.1 a := fun a ha => by rw [← hX1]; exact bk_row ha
  have j1 : ∀ a, ¬ (p' ≤ a ∧ a < p' + 21) → X1.2.1 a = X.2.1 a := fun a ha => by rw [← hX1]; exact bk_rowJ ha
  have p1 : eqP (bP X p) (bP X1 p') := by
    rw [← hX1, bP, bP, bB_bk]
    exact eqP.copy _ _
  have n1 : eqN (bPJ X p) (bPJ X1 p') := by
    refine eqN.copy (bPJ X p) (bPJ X p') (bPJ X1 p') ?_
    rw [← hX1]
    funext k
    show (bk X p' 21 _ _).2.1 (p' + 2) k = _
    rw [bk_inJ (by decide)]
  have c8 : fX8_copyFrom s' s X1 = some ((), bk X1 s' 7 (s_copy (bV X1 s) (bV X1 s')) (bVJ X1 s')) := gd_t (by omega)
  have eV : bV X1 s = bV X s := bB_same (fun a h1 h2 => r1 a (by omega))
  rw [eV] at c8
  generalize hX2 : bk X1 s' 7 (s_copy (bV X s) (bV X1 s')) (bVJ X1 s') = X2 at c8
  have r2 : ∀ a, ¬ (s' ≤ a ∧ a < s' + 7) → X2.1 a = X1.1 a := fun a ha => by rw [← hX2]; exact bk_row ha
  have j2 : X2.2.1 = X1.2.1 := by rw [← hX2]; exact bkJ_self
  have g2 : X2.2.2 = X.2.2 := by rw [← hX2, ← hX1]; rfl
  have v2 : eqV (bV X s) (bV X2 s') := by
    rw [← hX2]
    show eqV _ (bB 7 _ _)
    rw [bB_bk]
    exact (eqV.copy _ _).trans eqV.trim
  have u2 : bQ X2 u = bQ X u := bB_same (fun a h1 h2 => by rw [r2 a (by omega), r1 a (by omega)])
  have h2 : X2.1 u 0 = 0 ∨ X2.1 u 0 = 1 := by rw [r2 u (by omega), r1 u (by omega)]; exact h
  obtain ⟨Z, z1, z2, z3, z4⟩ := k_cp7 (Y := X2) (u := u) (u' := u') d3 h2
  refine ⟨Z, fun K => by rw [ca_s c5, ca_s c8, ca_s z1], fun a a1 a2 a3 => by rw [z2 a a3, r2 a a2, r1 a a1], fun a a1 => by rw [z3, j2, j1 a a1], by rw [z3, g2], ?_, ?_, ?_, ?_⟩
  · rw [show bP Z p' = bP X1 p' from bB_same (fun a h1 h2 => by rw [z2 a (by omega), r2 a (by omega)])]; exact p1
  · rw [show bPJ Z p' = bPJ X1 p' from bL_same (fun a h1 h2 => by rw [z3, j2])]; exact n1
  · rw [show bV Z s' = bV X2 s' from bB_same (fun a h1 h2 => z2 a (by omega))]; exact v2
  · rw [← u2]; exact z4
theorem in01b {a : Int32} (h1 : ¬ a < 0) (h2 : a < 2) : ∃ k, (k = 0 ∨ k = 1) ∧ a = nI k := by
  have h3 : a ≤ 1 := by
    rw [i32_lt] at h2; rw [i32_le]
    have e1 : (1 : Int32).toInt = 1 := by decide
    have e2 : (2 : Int32).toInt = 2 := by decide
    omega
  rcases in01.mp ⟨h1, h3⟩ with rfl | rfl
  · exact ⟨0, Or.inl rfl, rfl⟩
  · exact ⟨1, Or.inr rfl, rfl⟩
theorem isIn_t {a : Int32} {Y : X_} (h : a = 0 ∨ a = 1) : fX12_isIn a 0 1 Y = some (1, Y) := by
  have n01 := in01.mpr h
  unfold fX12_isIn
  rw [it_f n01.1, it_f (Int32.not_lt.mpr n01.2)]; rfl
theorem isIn_f {a : Int32} {Y : X_} (h : ¬ (a = 0 ∨ a = 1)) : fX12_isIn a 0 1 Y = some (0, Y) := by
  unfold fX12_isIn
  by_cases d : a < 0
  · rw [it_t d]; rfl
  · rw [it_f d]
    by_cases e : 1 < a
    · rw [it_t e]; rfl
    · exact absurd (in01.mp ⟨d, Int32.not_lt.mp e⟩) h
/-- an image's place -/
def imB (k : Nat) : Nat := if k = 0 then 150 else 184
theorem rM_k {α : Type} {F : Nat → RM α} {k : Nat} (hk : k = 0 ∨ k = 1) : rM (nI k) F X = F (imB k) X := by
  rcases hk with rfl | rfl
  · exact if_pos rfl
  · unfold rM
    rw [if_neg (by decide), if_pos (show nI 1 = 1 from rfl)]; rfl
theorem imB_eq {k : Nat} (hk : k = 0 ∨ k = 1) : (k = 0 ∧ imB k = 150) ∨ (k = 1 ∧ imB k = 184) := by
  rcases hk with rfl | rfl
  · exact Or.inl ⟨rfl, rfl⟩
  · exact Or.inr ⟨rfl, rfl⟩
theorem Inv.im (h : Inv X) {k : Nat} (hk : k = 0 ∨ k = 1) : I_i1 X k (imB k) := by
  rcases hk with rfl | rfl
  · exact h.i.1
  · exact h.i.2
theorem im_of (h : ∀ k, (k = 0 ∨ k = 1) → I_i1 X k (imB k)) : I_i X := ⟨h 0 (Or.inl rfl), h 1 (Or.inr rfl)⟩
theorem rQ_01 {P Q : m_V} {S : Nat → Int32} (h : rQ P Q S) : Q 0 0 = 0 ∨ Q 0 0 = 1 := by
  rcases h with h | h
  · exact Or.inl h.2
  · exact Or.inr h.1
theorem sim_image (a : Int32) : Sim (fX11_image a) (fX12_image a) := fun X hX => by
  unfold fX11_image fX12_image
  by_cases c1 : a < 0
  · refine ⟨0, X, sI X 218 0 0, by rw [it_t c1]; rfl, ?_, hX.thrown⟩
    rw [pI_e, ca_s (isIn_f (fun h => (in01.mpr h).1 c1)), it_t (show (0 : Int32) = 0 from rfl)]; rfl
  by_cases c2 : a < 2
  · obtain ⟨k, hk, rfl⟩ := in01b c1 c2
    have hb := imB_eq hk
    generalize hib : imB k = b at hb
    have h01 : X.1 130 0 = 0 ∨ X.1 130 0 = 1 := rQ_01 hX.w.q
    obtain ⟨Y, y1, y2, y3, y4, y5, y6, y7, y8⟩ := k_cp3 (X := X) (p := 4) (p' := b + 1) (s := 47) (s' := b + 27) (u := 130) (u' := b + 22) (by unfold dj; omega) (by unfold dj; omega) (by unfold dj; omega) (by unfold dj; omega) (by unfold dj; omega) (by unfold dj; omega) (by unfold dj; omega) (by unfold dj; omega) (by unfold dj; omega) h01
    let X1 : X_ := sI Y b 3 1
    let X2 : X_ := sI (setJ (setR (sI X1 218 0 0) 236 (cpN (469 * k) 469 (fun i => (sI X1 218 0 0).1 220 (0 + i)) ((sI X1 218 0 0).1 236))) 237 (cpJ (41 * k) 41 (fun i => (sI X1 218 0 0).2.1 223 (0 + i)) ((sI X1 218 0 0).2.1 237))) 238 k 1
    have R : ∀ q, ¬ (b ≤ q ∧ q < b + 34) → ¬ q = 218 → ¬ q = 236 → ¬ q = 238 → X2.1 q = X.1 q := fun q q1 q2 q3 q4 => by
      show (sI (setJ (setR (sI (sI Y b 3 1) 218 0 0) _ _) _ _) 238 k 1).1 q = _
      rw [sI_row q4, setJ_1, setR_ne q3, sI_row q2, sI_row (by omega), y2 q (by omega) (by omega) (by omega)]
    have F : ∀ q, ¬ q = 0 → X2.1 218 q = X.1 218 q := fun q q1 => by
      show (sI (setJ (setR (sI (sI Y b 3 1) 218 0 0) _ _) _ _) 238 k 1).1 218 q = _
      rw [sI_row (by decide), setJ_1, setR_ne (by decide), sI_ne (by omega), sI_row (by omega), y2 218 (by omega) (by omega) (by omega)]
    have J : ∀ q, ¬ (b ≤ q ∧ q < b + 34) → ¬ q = 237 → X2.2.1 q = X.2.1 q := fun q q1 q2 => by
      show (setJ (setR (sI (sI Y b 3 1) 218 0 0) _ _) _ _).2.1 q = _
      rw [setJ_ne q2]
      exact y3 q (by omega)
    have B : ∀ q, b < q → q < b + 34 → X2.1 q = Y.1 q := fun q q1 q2 => by
      show (sI (setJ (setR (sI (sI Y b 3 1) 218 0 0) _ _) _ _) 238 k 1).1 q = _
      rw [sI_row (by omega), setJ_1, setR_ne (by omega), sI_row (by omega), sI_row (by omega)]
    have BJ : ∀ q, b < q → q < b + 34 → X2.2.1 q = Y.2.1 q := fun q q1 q2 => by
      show (setJ (setR (sI (sI Y b 3 1) 218 0 0) _ _) _ _).2.1 q = _
      rw [setJ_ne (by omega)]
      rfl
    refine ⟨1, X1, X2, ?_, ?_, ?_⟩
    · rw [it_f c1, it_t c2, rM_k hk, hib]
      exact ca_s (w := ()) (y1 _)
    · rw [pI_e, ca_s (isIn_t (by rcases hk with rfl | rfl; exact Or.inl rfl; exact Or.inr rfl)), it_f (show ¬ (1 : Int32) = 0 by decide)]
      refine (e_cpI (a := 220) (b := 236) (na := 469) (nb := 938) (d := 469 * k) (e := 0) (n := 469) (K := (lz1 (fun L51 x3 => (it (41 ≤ x3) (wZ 238 2 (nI k) 1 (re 1)) (rJ 223 82 x3 fun v4 => (wJ 237 82 ((41 * nI k) + x3) v4 (L51 (x3 + 1)))))) FU 0)) (by decide) (by decide) (by decide) (by decide) (by decide) (by omega) (fun L i Z hi => ?_) (fun L Z => ?_)).trans ?_
      · rw [it_f (nL_ge hi (by decide)), ix_lm, nI_add, nI_1, Nat.zero_add]
      · rw [it_t (nL_le (by decide))]
      · refine (e_cpJ (a := 223) (b := 237) (na := 82) (nb := 82) (d := 41 * k) (e := 0) (n := 41) (K := wZ 238 2 (nI k) 1 (re 1)) (by decide) (by decide) (by decide) (by decide) (by decide) (by omega) (fun L i Z hi => ?_) (fun L Z => ?_)).trans ?_
        · rw [it_f (nL_ge hi (by decide)), ix_lm, nI_add, nI_1, Nat.zero_add]
        · rw [it_t (nL_le (by decide))]
        · rw [wZ_n (by omega) (by decide) (Or.inr rfl)]
          rfl
    · have hi : I_i X2 := by
        refine im_of (fun k' hk' => ?_)
        by_cases e : k' = k
        · subst e
          rw [hib]
          have e1 : X2.1 b 3 = 1 := by
            show (sI (setJ (setR (sI (sI Y b 3 1) 218 0 0) _ _) _ _) 238 k' 1).1 b 3 = _
            rw [sI_row (by omega), setJ_1, setR_ne (by omega), sI_row (by omega), sI_eq]
          have e2 : X2.1 238 k' = 1 := sI_eq
          refine ⟨by rw [e1, e2], Or.inr ⟨e1, ?_⟩⟩
          refine Wd.congr (P := bP X 4) (N := bPJ X 4) (V := bV X 47) (Q := bQ X 130) (S := X.1 220) (M := X.2.1 223) hX.w ?_ ?_ ?_ ?_ (fun j hj => ?_) (fun j hj => ?_)
          · rw [show bP X2 (b + 1) = bP Y (b + 1) from bB_same (fun a h1 h2 => B a (by omega) (by omega))]; exact y5
          · rw [show bPJ X2 (b + 1) = bPJ Y (b + 1) from bL_same (fun a h1 h2 => BJ a (by omega) (by omega))]; exact y6
          · rw [show bV X2 (b + 27) = bV Y (b + 27) from bB_same (fun a h1 h2 => B a (by omega) (by omega))]; exact y7
          · rw [show bQ X2 (b + 22) = bQ Y (b + 22) from bB_same (fun a h1 h2 => B a (by omega) (by omega))]; exact y8
          · show (sI (setJ (setR (sI (sI Y b 3 1) 218 0 0) _ _) _ _) 238 k' 1).1 236 (469 * k' + j) = _
            rw [sI_row (by decide), setJ_1, setR_eq, cpN_in hj, Nat.zero_add]
            show (sI (sI Y b 3 1) 218 0 0).1 220 j = _
            rw [sI_row (by decide), sI_row (by omega), y2 220 (by omega) (by omega) (by omega)]
          · show (setJ (setR (sI (sI Y b 3 1) 218 0 0) _ _) _ _).2.1 237 (41 * k' + j) = _
            rw [setJ_eq, cpJ_in hj, Nat.zero_add]
            exact congrFun (y3 223 (by omega)) j
        · have hb' := imB_eq hk'
          have old := hX.im hk'
          generalize imB k' = b' at hb' old
          obtain ⟨o1, o2⟩ := old
          have e1 : X2.1 b' = X.1 b' := R b' (by omega) (by omega) (by omega) (by omega)
          have e2 : X2.1 238 k' = X.1 238 k' := by
            show (sI (setJ (setR (sI (sI Y b 3 1) 218 0 0) _ _) _ _) 238 k 1).1 238 k' = _
            rw [sI_ne (by omega), setJ_1, setR_ne (by decide), sI_row (by decide), sI_row (by omega), y2 238 (by omega) (by omega) (by omega)]
          refine ⟨by rw [e1, e2]; exact o1, ?_⟩
          rw [e1]
          rcases o2 with o2 | ⟨o2, o3⟩
          · exact Or.inl o2
          · refine Or.inr ⟨o2, ?_⟩
            rw [show bP X2 (b' + 1) = bP X (b' + 1) from bB_same (fun a h1 h2 => R a (by omega) (by omega) (by omega) (by omega)), show bPJ X2 (b' + 1) = bPJ X (b' + 1) from bL_same (fun a h1 h2 => J a (by omega) (by omega)), show bV X2 (b' + 27) = bV X (b' + 27) from bB_same (fun a h1 h2 => R a (by omega) (by omega) (by omega) (by omega)), show bQ X2 (b' + 22) = bQ X (b' + 22) from bB_same (fun a h1 h2 => R a (by omega) (by omega) (by omega) (by omega))]
            refine o3.congr eqP.refl eqN.refl eqV.refl eqQ.refl (fun j hj => ?_) (fun j hj => ?_)
            · show (sI (setJ (setR (sI (sI Y b 3 1) 218 0 0) _ _) _ _) 238 k 1).1 236 (469 * k' + j) = _
              rw [sI_row (by decide), setJ_1, setR_eq, cpN_out (by omega)]
              show (sI (sI Y b 3 1) 218 0 0).1 236 _ = _
              rw [sI_row (by decide), sI_row (by omega), y2 236 (by omega) (by omega) (by omega)]
            · show (setJ (setR (sI (sI Y b 3 1) 218 0 0) _ _) _ _).2.1 237 (41 * k' + j) = _
              rw [setJ_eq]
              have : ¬ (41 * k ≤ 41 * k' + j ∧ 41 * k' + j < 41 * k + 41) := by omega
              rw [cpJ, if_neg this]
              exact congrFun (y3 237 (by omega)) _
      refine ⟨?_, ?_, ?_, ?_, ?_, ?_, ?_, ?_, ?_, ?_⟩
      · exact hX.t.of (congrFun (by exact R _ (by omega) (by omega) (by omega) (by omega)) 1) (by exact R _ (by omega) (by omega) (by omega) (by omega)) (by exact F _ (by decide)) (by exact R _ (by omega) (by omega) (by omega) (by omega))
      · exact hX.k.of (by exact J _ (by omega) (by omega)) (by exact J _ (by omega) (by omega))
      · exact hX.w.of (fun a ha => by exact R _ (by omega) (by omega) (by omega) (by omega)) (fun a ha => by exact J _ (by omega) (by omega))
      · exact hX.h.of (fun a ha => by exact R _ (by omega) (by omega) (by omega) (by omega)) (by exact F _ (by decide)) y4
      · exact hi
      · exact hX.b.of (by exact R _ (by omega) (by omega) (by omega) (by omega)) (by exact F _ (by decide)) (by exact R _ (by omega) (by omega) (by omega) (by omega))
      · exact hX.c.of (fun a ha => by exact R _ (by omega) (by omega) (by omega) (by omega)) (by exact F _ (by decide)) (by exact F _ (by decide))
      · exact hX.f.of (fun a ha => by exact R _ (by omega) (by omega) (by omega) (by omega)) (by exact F _ (by decide)) (by exact F _ (by decide))
      · exact hX.g.of (fun a ha => by exact R _ (by omega) (by omega) (by omega) (by omega)) (by exact F _ (by decide))
      · exact hX.o.of (by exact R _ (by omega) (by omega) (by omega) (by omega)) (by exact F _ (by decide)) (by exact F _ (by decide)) (by exact F _ (by decide))
  · refine ⟨0, X, sI X 218 0 0, by rw [it_f c1, it_f c2]; rfl, ?_, hX.thrown⟩
    rw [pI_e, ca_s (isIn_f (fun h => c2 (by rcases h with rfl | rfl <;> decide))), it_t (show (0 : Int32) = 0 from rfl)]; rfl
end IM
