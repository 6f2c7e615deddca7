/-! a token, in both: next -/
section TN
variable {X Y Z : X_} {n m p : Nat} {B : Nat → Nat}
theorem nextV_fr (T : m_V) (L : m_L) : (∀ k, ¬ k = 3 → ¬ k = 4 → ¬ k = 5 → ¬ k = 6 → ¬ k = 8 → t_nextV T L 0 k = T 0 k) ∧ t_nextV T L 1 = T 1 ∧ t_nextV T L 2 = T 2 ∧ (∀ k, ¬ k = 7 → t_nextL T L 0 k = L 0 k) ∧ t_nextL T L 1 = L 1 ∧ t_nextL T L 2 = L 2 := by
  refine ⟨fun k a b c d e => ?_, ?_, ?_, fun k a => ?_, ?_, ?_⟩
  · unfold t_nextV
    split
    · simp [t_n2, u2, a, b, c, d, e]
    · split <;> simp [t_rrV, t_n3, t_n2, u2, a, b, c, d, e]
  · unfold t_nextV
    funext k
    split
    · simp [t_n2, u2]
    · split <;> simp [t_rrV, t_n3, t_n2, u2]
  · unfold t_nextV
    funext k
    split
    · simp [t_n2, u2]
    · split <;> simp [t_rrV, t_n3, t_n2, u2]
  · unfold t_nextL
    split
    · rfl
    · split
      · simp [t_rrL, u2l, a]
      · rfl
  · unfold t_nextL
    funext k
    split
    · rfl
    · split
      · simp [t_rrL, u2l]
      · rfl
  · unfold t_nextL
    funext k
    split
    · rfl
    · split
      · simp [t_rrL, u2l]
      · rfl
/-- the run at e -/
def rul (B : Nat → Nat) (n e : Nat) : List Nat := rnl B (n - e) e
theorem e_ntok {e : Nat} (h : hB B n Y) (t : tS Y Z) (he : e < n) (h4 : Z.1 218 4 = nI e) (h13 : Z.1 218 13 = 0) : ∃ Y1, n_tok Z = some ((), Y1) ∧ tS Y Y1 ∧ Y1.1 218 12 = Z.1 218 12 ∧ ((ltr (B e) || dgt (B e)) = true ∧ Y1.1 218 4 = nI (e + (rul B n e).length) ∧ Y1.1 218 11 = tkd (ltr (B e)) (rul B n e) ∧ Y1.1 218 14 = sNb (rul B n e) ∧ Y1.2.1 218 17 = sWd (rul B n e) ∨ (ltr (B e) || dgt (B e)) = false ∧ Y1.1 218 4 = nI (e + 1) ∧ Y1.1 218 14 = nI (B e) ∧ (sgn (B e) ∧ Y1.1 218 11 = 3 ∨ ¬ sgn (B e) ∧ Y1.1 218 11 = 4)) := by
  have n1 := h.1
  have c256 := (h.2.2 e he).1
  unfold n_tok
  rw [ca_s (e_peek (h.of t) (by omega) h4), pkv, if_pos he, it_t (nI_pos' (by omega)), ca_s (e_isSm c256), jo0_e]
  have wd : (ltr (B e) || dgt (B e)) = true → ∃ Y1, n_word (nI (B e)) Z = some ((), Y1) ∧ tS Y Y1 ∧ Y1.1 218 12 = Z.1 218 12 ∧ Y1.1 218 4 = nI (e + (rul B n e).length) ∧ Y1.1 218 11 = tkd (ltr (B e)) (rul B n e) ∧ Y1.1 218 14 = sNb (rul B n e) ∧ Y1.2.1 218 17 = sWd (rul B n e) := fun q => by
    unfold n_word n_run
    rw [ca_s (e_isSm c256), pJ_e, pI_e]
    obtain ⟨Y1, a1, a2, a3, a4, a5⟩ := e_nrun (s := ltr (B e)) h (n - e) e [] FU (sI (sJ Z 218 17 0) 218 14 0) (by omega) (by rw [FU_eq]; omega) (Nat.zero_le _) (t.j.i (by decide)) ⟨by rw [sI_ne (by decide)]; exact h4, by rw [sI_ne (by decide)]; exact h13, sI_eq, by rw [sI_j, sJ_j, if_pos ⟨rfl, rfl⟩]; rfl⟩
    rw [List.nil_append] at a3 a5
    refine ⟨Y1, a1, a2, ?_, a3.1, a5, a3.2.2.1, a3.2.2.2⟩
    rw [a4, sI_ne (by decide)]; rfl
  cases q1 : ltr (B e)
  · rw [it_t (show b2 false = 0 from rfl), ca_s (e_isDg c256)]
    cases q2 : dgt (B e)
    · rw [it_t (show b2 false = 0 from rfl)]
      have fin : ∀ v : Int32, (v = 3 ∧ sgn (B e) ∨ v = 4 ∧ ¬ sgn (B e)) → ∃ Y1, (pI 218 11 v (pI 218 14 (nI (B e)) (gI 218 4 fun v43 => (pI 218 4 (v43 + 1) (re ()))))) Z = some ((), Y1) ∧ tS Y Y1 ∧ Y1.1 218 12 = Z.1 218 12 ∧ ((false || false) = true ∧ Y1.1 218 4 = nI (e + (rul B n e).length) ∧ Y1.1 218 11 = tkd false (rul B n e) ∧ Y1.1 218 14 = sNb (rul B n e) ∧ Y1.2.1 218 17 = sWd (rul B n e) ∨ (false || false) = false ∧ Y1.1 218 4 = nI (e + 1) ∧ Y1.1 218 14 = nI (B e) ∧ (sgn (B e) ∧ Y1.1 218 11 = 3 ∨ ¬ sgn (B e) ∧ Y1.1 218 11 = 4)) := fun v hv => by
        rw [pI_e, pI_e, gI_e, pI_e, sI_ne (by decide), sI_ne (by decide), h4, nI_1]
        refine ⟨_, rfl, ((t.i (by decide)).i (by decide)).i (by decide), ?_, Or.inr ⟨rfl, sI_eq, ?_, ?_⟩⟩
        · rw [sI_ne (by decide), sI_ne (by decide), sI_ne (by decide)]
        · rw [sI_ne (by decide), sI_eq]
        · rw [sI_ne (by decide), sI_ne (by decide), sI_eq]
          rcases hv with ⟨a, b⟩ | ⟨a, b⟩
          · exact Or.inl ⟨b, a⟩
          · exact Or.inr ⟨b, a⟩
      have cq : ∀ k, k < 256 → (nI (B e) = nI k ↔ B e = k) := fun k hk => nI_eq (by omega) (by omega)
      unfold n_sign
      by_cases c1 : B e = 59
      · rw [it_t (show nI (B e) = 59 by rw [c1]; rfl)]
        exact fin 3 (Or.inl ⟨rfl, Or.inl c1⟩)
      rw [it_f (show ¬ nI (B e) = 59 from fun z => c1 ((cq 59 (by decide)).mp z))]
      by_cases c2 : B e = 40
      · rw [it_t (show nI (B e) = 40 by rw [c2]; rfl)]
        exact fin 3 (Or.inl ⟨rfl, Or.inr (Or.inl c2)⟩)
      rw [it_f (show ¬ nI (B e) = 40 from fun z => c2 ((cq 40 (by decide)).mp z))]
      by_cases c3 : B e = 41
      · rw [it_t (show nI (B e) = 41 by rw [c3]; rfl)]
        exact fin 3 (Or.inl ⟨rfl, Or.inr (Or.inr (Or.inl c3))⟩)
      rw [it_f (show ¬ nI (B e) = 41 from fun z => c3 ((cq 41 (by decide)).mp z))]
      by_cases c4 : B e < 60
      · rw [it_t (show nI (B e) < 60 from (nI_ltI (b := 60) (by omega) (by decide)).mpr c4)]
        exact fin 4 (Or.inr ⟨rfl, fun z => by unfold sgn at z; omega⟩)
      rw [it_f (show ¬ nI (B e) < 60 from fun z => c4 ((nI_ltI (b := 60) (by omega) (by decide)).mp z))]
      by_cases c5 : 62 < B e
      · rw [it_t (show 62 < nI (B e) from (nI_ltI (a := 62) (by decide) (by omega)).mpr c5)]
        exact fin 4 (Or.inr ⟨rfl, fun z => by unfold sgn at z; omega⟩)
      rw [it_f (show ¬ 62 < nI (B e) from fun z => c5 ((nI_ltI (a := 62) (by decide) (by omega)).mp z))]
      exact fin 3 (Or.inl ⟨rfl, by unfold sgn; omega⟩)
    · rw [it_f (show ¬ b2 true = 0 by decide)]
      obtain ⟨Y1, a1, a2, a3, a4⟩ := wd (by rw [q1, q2]; rfl)
      rw [q1] at a4
      exact ⟨Y1, a1, a2, a3, Or.inl ⟨rfl, a4⟩⟩
  · rw [it_f (show ¬ b2 true = 0 by decide)]
    obtain ⟨Y1, a1, a2, a3, a4⟩ := wd (by rw [q1]; rfl)
    rw [q1] at a4
    exact ⟨Y1, a1, a2, a3, Or.inl ⟨by simp, a4⟩⟩
theorem e_nextT {b : Nat → Int32} {e : Nat} (h : hB B n Y) (hb : ∀ k, k < n → b k = nI (B k)) (m1 : m ≤ 1460) (h5 : Y.1 218 5 = nI m) (hp : p ≤ n) (h4 : Y.1 218 4 = nI p) (he : t_skip b (n - p) p = e) : ∃ Y1, fX12_next Y = some ((), Y1) ∧ tS Y Y1 ∧ p ≤ e ∧ e ≤ n ∧ ((n ≤ e ∨ m ≤ e) ∧ Y1.1 218 4 = nI e ∧ (m < n → Y1.1 218 12 = nI m ∧ Y1.1 218 11 = 4) ∧ (n ≤ m → Y1.1 218 12 = nI n ∧ Y1.1 218 11 = 0) ∨ e < n ∧ e < m ∧ Y1.1 218 12 = nI e ∧ ((ltr (B e) || dgt (B e)) = true ∧ Y1.1 218 4 = nI (e + (rul B n e).length) ∧ Y1.1 218 11 = tkd (ltr (B e)) (rul B n e) ∧ Y1.1 218 14 = sNb (rul B n e) ∧ Y1.2.1 218 17 = sWd (rul B n e) ∨ (ltr (B e) || dgt (B e)) = false ∧ Y1.1 218 4 = nI (e + 1) ∧ Y1.1 218 14 = nI (B e) ∧ (sgn (B e) ∧ Y1.1 218 11 = 3 ∨ ¬ sgn (B e) ∧ Y1.1 218 11 = 4))) := by
  have n1 := h.1
  rw [next_def]
  refine e_skip (Q := fun o => ∃ Y1, o = some ((), Y1) ∧ tS Y Y1 ∧ p ≤ e ∧ e ≤ n ∧ ((n ≤ e ∨ m ≤ e) ∧ Y1.1 218 4 = nI e ∧ (m < n → Y1.1 218 12 = nI m ∧ Y1.1 218 11 = 4) ∧ (n ≤ m → Y1.1 218 12 = nI n ∧ Y1.1 218 11 = 0) ∨ e < n ∧ e < m ∧ Y1.1 218 12 = nI e ∧ ((ltr (B e) || dgt (B e)) = true ∧ Y1.1 218 4 = nI (e + (rul B n e).length) ∧ Y1.1 218 11 = tkd (ltr (B e)) (rul B n e) ∧ Y1.1 218 14 = sNb (rul B n e) ∧ Y1.2.1 218 17 = sWd (rul B n e) ∨ (ltr (B e) || dgt (B e)) = false ∧ Y1.1 218 4 = nI (e + 1) ∧ Y1.1 218 14 = nI (B e) ∧ (sgn (B e) ∧ Y1.1 218 11 = 3 ∨ ¬ sgn (B e) ∧ Y1.1 218 11 = 4)))) h hb hp h4 (fun Z t z4 zn pz => ?_)
  rw [he] at z4 zn pz
  have z3 := (h.of t).2.1
  have z5 : Z.1 218 5 = nI m := (t.2.1 5 (by decide) (by decide) (by decide) (by decide) (by decide)).trans h5
  have t2 : tS Y (sI (sI Z 218 12 (nI e)) 218 13 0) := (t.i (by decide)).i (by decide)
  have q4 : (sI (sI Z 218 12 (nI e)) 218 13 0).1 218 4 = nI e := by rw [sI_ne (by decide), sI_ne (by decide)]; exact z4
  have q12 : (sI (sI Z 218 12 (nI e)) 218 13 0).1 218 12 = nI e := by rw [sI_ne (by decide), sI_eq]
  unfold n_rest
  rw [gI_e, z4, pI_e, pI_e, gI_e, gI_e, jo0_e, sI_ne (by decide), sI_ne (by decide), sI_ne (by decide), sI_ne (by decide), z3, z5]
  have tok : e < n → e < m → ∃ Y1, n_tok (sI (sI Z 218 12 (nI e)) 218 13 0) = some ((), Y1) ∧ tS Y Y1 ∧ p ≤ e ∧ e ≤ n ∧ ((n ≤ e ∨ m ≤ e) ∧ Y1.1 218 4 = nI e ∧ (m < n → Y1.1 218 12 = nI m ∧ Y1.1 218 11 = 4) ∧ (n ≤ m → Y1.1 218 12 = nI n ∧ Y1.1 218 11 = 0) ∨ e < n ∧ e < m ∧ Y1.1 218 12 = nI e ∧ ((ltr (B e) || dgt (B e)) = true ∧ Y1.1 218 4 = nI (e + (rul B n e).length) ∧ Y1.1 218 11 = tkd (ltr (B e)) (rul B n e) ∧ Y1.1 218 14 = sNb (rul B n e) ∧ Y1.2.1 218 17 = sWd (rul B n e) ∨ (ltr (B e) || dgt (B e)) = false ∧ Y1.1 218 4 = nI (e + 1) ∧ Y1.1 218 14 = nI (B e) ∧ (sgn (B e) ∧ Y1.1 218 11 = 3 ∨ ¬ sgn (B e) ∧ Y1.1 218 11 = 4))) := fun en em => by
    obtain ⟨Y1, a1, a2, a3, a4⟩ := e_ntok h t2 en q4 sI_eq
    exact ⟨Y1, a1, a2, pz, zn, Or.inr ⟨en, em, a3.trans q12, a4⟩⟩
  by_cases c : n ≤ m
  · rw [it_t (nI_le c (by omega))]
    by_cases c2 : e < n
    · exact tok c2 (by omega)
    · have : e = n := by omega
      unfold n_tok
      rw [ca_s (e_peek (h.of t2) (by omega) q4), pkv, if_neg c2, it_f (by decide), pI_e]
      refine ⟨_, rfl, t2.i (by decide), pz, zn, Or.inl ⟨Or.inl (by omega), ?_, fun z => absurd z (by omega), fun _ => ⟨?_, sI_eq⟩⟩⟩
      · rw [sI_ne (by decide)]; exact q4
      · rw [sI_ne (by decide), q12, this]
  · rw [it_f (nI_ge (by omega) (by omega)), gI_e, gI_e, q4, show (sI (sI Z 218 12 (nI e)) 218 13 0).1 218 5 = nI m by rw [sI_ne (by decide), sI_ne (by decide)]; exact z5]
    by_cases c2 : e < m
    · rw [it_t ((nI_ltI (by omega) (by omega)).mpr c2)]
      exact tok (by omega) c2
    · rw [it_f (nI_nlt (by omega) (by omega)), gI_e, pI_e, pI_e, show (sI (sI Z 218 12 (nI e)) 218 13 0).1 218 5 = nI m by rw [sI_ne (by decide), sI_ne (by decide)]; exact z5]
      refine ⟨_, rfl, (t2.i (by decide)).i (by decide), pz, zn, Or.inl ⟨Or.inr (by omega), ?_, fun _ => ⟨?_, sI_eq⟩, fun z => absurd z c⟩⟩
      · rw [sI_ne (by decide), sI_ne (by decide)]; exact q4
      · rw [sI_ne (by decide), sI_eq]
theorem r_next (h : TB X Y n m p) : ∃ X1 Y1 p', fX10_next X = some ((), X1) ∧ fX12_next Y = some ((), Y1) ∧ TB X1 Y1 n m p' ∧ TK X1 Y1 ∧ cSx X X1 ∧ tS Y Y1 ∧ p ≤ p' ∧ (X1.1 1 4 = 3 → ∃ a, X1.1 1 5 = nI a ∧ p ≤ a ∧ a < p' ∧ a < m) ∧ (X1.1 1 4 = 1 ∨ X1.1 1 4 = 2 → p < p') := by
  obtain ⟨n1, m1, pn, ⟨x1, y3⟩, ⟨x2, y5⟩, ⟨x3, y4⟩, hby, hk⟩ := h
  have T0 : ∀ k, bT X 0 k = X.1 1 k := fun _ => rfl
  have T1 : bT X 1 = X.1 2 := rfl
  have T2 : bT X 2 = X.1 3 := rfl
  have sz : t_sz (bT X) = n := by unfold t_sz; rw [T0, x1, nI_clamp (by omega)]
  have mo : t_mo (bT X) = m := by unfold t_mo; rw [T0, x2, nI_clamp (by omega)]
  have rp : t_re (bT X) = p := by unfold t_re; rw [T0, x3, nI_clamp (by omega)]
  have ok : okT (bT X) := okT_mk x1 x2 x3 n1 m1 pn
  generalize hBd : (fun k => (X.1 2 k).toNatClampNeg) = B
  have hb : ∀ k, k < n → X.1 2 k = nI (B k) ∧ B k < 256 ∧ Y.1 219 k &&& 255 = nI (B k) := fun k hk => by
    obtain ⟨b, b1, b2, b3⟩ := hby k hk
    have : B k = b := by rw [← hBd]; dsimp only; rw [b2, nI_clamp (by omega)]
    rw [this]
    exact ⟨b2, b1, b3⟩
  have hY : hB B n Y := ⟨n1, y3, fun k hk => (hb k hk).2⟩
  have enr : t_nr (bT X) = t_skip (X.1 2) (n - p) p := by unfold t_nr; rw [sz, rp, T1]
  obtain ⟨Y1, f1, f2, pe, en, f3⟩ := e_nextT (b := X.1 2) hY (fun k hk => (hb k hk).1) m1 y5 pn y4 enr.symm
  generalize hX1 : bkS X (t_nextS (bS X)) = X1
  have cN : fX10_next X = some ((), X1) := by rw [← hX1]; exact gd_t ok
  obtain ⟨v1, v2, v3, v4, v5, v6⟩ := nextV_fr (bT X) (bTJ X)
  have fr : cSx X X1 := by rw [← hX1]; exact bkS_c v1 v2 v3 v4 v5 v6
  have r1 : ∀ k, X1.1 1 k = t_nextV (bT X) (bTJ X) 0 k := fun k => by rw [← hX1]; exact congrFun (bk_in0 (by decide)) k
  have l1 : ∀ k, X1.2.1 1 k = t_nextL (bT X) (bTJ X) 0 k := fun k => by rw [← hX1]; exact congrFun (bk_inJ (b := 1) (j := 0) (by decide)) k
  have mkB : ∀ p', p' ≤ n → X1.1 1 3 = nI p' → Y1.1 218 4 = nI p' → TB X1 Y1 n m p' := fun p' h1 h2 h3 => by
    have g : ∀ k, ¬ k = 4 → ¬ k = 11 → ¬ k = 12 → ¬ k = 13 → ¬ k = 14 → Y1.1 218 k = Y.1 218 k := f2.2.1
    refine ⟨n1, m1, h1, ⟨?_, ?_⟩, ⟨?_, ?_⟩, ⟨h2, h3⟩, fun k hk => ?_, fun k hk' => ?_⟩
    · rw [fr.2.1 1 (by decide) (by decide) (by decide) (by decide) (by decide)]; exact x1
    · rw [g 3 (by decide) (by decide) (by decide) (by decide) (by decide)]; exact y3
    · rw [fr.2.1 2 (by decide) (by decide) (by decide) (by decide) (by decide)]; exact x2
    · rw [g 5 (by decide) (by decide) (by decide) (by decide) (by decide)]; exact y5
    · rw [fr.1 2 (by decide), f2.1 219 (by decide)]; exact hby k hk
    · rw [fr.2.2.1 3 k (by omega), f2.2.2.1 224 k (by omega)]; exact hk k hk'
  generalize t_nr (bT X) = e at enr pe en f3
  rcases f3 with ⟨c, g4, g5, g6⟩ | ⟨c1, c2, g12, f3⟩
  · have cc : t_sz (bT X) ≤ t_nr (bT X) ∨ t_mo (bT X) ≤ t_nr (bT X) := by
      rw [sz, mo]
      unfold t_nr
      rw [sz, rp, T1, ← enr]; exact c
    have nre : t_nr (bT X) = e := by unfold t_nr; rw [sz, rp, T1, ← enr]
    have val : ∀ k, X1.1 1 k = (u2 (u2 (t_n2 (bT X)) 0 4 (if m < n then 4 else 0)) 0 5 (if m < n then nI m else nI n)) 0 k := fun k => by
      rw [r1]
      unfold t_nextV
      rw [if_pos cc, sz, mo]
    have a3 : X1.1 1 3 = nI e := by rw [val]; simp [u2, t_n2, nre]
    have a4 : X1.1 1 4 = if m < n then 4 else 0 := by rw [val]; simp [u2]
    have a5 : X1.1 1 5 = if m < n then nI m else nI n := by rw [val]; simp [u2]
    have a8 : X1.1 1 8 = -1 := by rw [val]; simp [u2, t_n2]
    refine ⟨X1, Y1, e, cN, f1, mkB e en a3 g4, ?_, fr, f2, pe, fun z => ?_, fun z => ?_⟩
    · by_cases d : m < n
      · obtain ⟨b1, b2⟩ := g5 d
        rw [if_pos d] at a4 a5
        exact ⟨by rw [a5, b1], Or.inr (Or.inr (Or.inr (Or.inr ⟨b2, Or.inl a4, a8⟩)))⟩
      · obtain ⟨b1, b2⟩ := g6 (by omega)
        rw [if_neg d] at a4 a5
        exact ⟨by rw [a5, b1], Or.inl ⟨a4, b2, a8⟩⟩
    · rw [a4] at z
      split at z
      · exact absurd z (by decide)
      · exact absurd z (by decide)
    · rw [a4] at z
      split at z
      · exact absurd z (by decide)
      · exact absurd z (by decide)
  · have nre : t_nr (bT X) = e := by unfold t_nr; rw [sz, rp, T1, ← enr]
    have cc : ¬ (t_sz (bT X) ≤ t_nr (bT X) ∨ t_mo (bT X) ≤ t_nr (bT X)) := by rw [sz, mo, nre]; omega
    obtain ⟨be, b256, -⟩ := hb e c1
    obtain ⟨ch1, ch2, -, ch4⟩ := ch_all _ b256
    have tst : (t_letter (bT X 1 (t_nr (bT X))) || t_digit (bT X 1 (t_nr (bT X)))) = (ltr (B e) || dgt (B e)) := by rw [nre, T1, be, ch1, ch2]
    rcases f3 with ⟨q, g4, g11, g14, g17⟩ | ⟨q, g4, g14, g11⟩
    · have val : ∀ k, X1.1 1 k = t_rrV (t_n3 (bT X)) (bTJ X) 0 k := fun k => by
        rw [r1]
        unfold t_nextV
        rw [if_neg cc, tst, if_pos q]
      have lal : X1.2.1 1 7 = (t_rrR (t_n3 (bT X))).2.2.2.1 := by
        rw [l1]
        unfold t_nextL
        rw [if_neg cc, tst, if_pos q]
        simp [t_rrL, u2l]
      have hR : t_rrR (t_n3 (bT X)) = (e + (rul B n e).length, nI (clt (rul B n e)), nI (cdg (rul B n e)), sLt (rul B n e), sVb (rul B n e)) := by
        have h1 : (t_n3 (bT X)) 1 = X.1 2 := by funext k; simp [t_n3, t_n2, u2]; rfl
        have h2 : (t_n3 (bT X)) 0 1 = nI n := by simp [t_n3, t_n2, u2]; exact x1
        have h3 : (t_n3 (bT X)) 0 3 = nI e := by simp [t_n3, t_n2, u2, nre]
        unfold t_rrR
        rw [h1, h2, h3, nI_clamp (by omega), nI_clamp (by omega)]
        exact t_run_rn (n - e) e [] (fun k k1 k2 => ⟨(hb k (by omega)).1, (hb k (by omega)).2.1⟩)
      obtain ⟨w1, w2⟩ := rn_all (B := B) (n - e) e (fun k k1 k2 => (hb k (by omega)).2.1)
      have w0 : 1 ≤ (rul B n e).length := by
        unfold rul
        rw [show n - e = (n - e - 1) + 1 by omega, rnl, if_pos q, List.length_cons]
        omega
      have hd : B e ∈ rul B n e := by
        unfold rul
        rw [show n - e = (n - e - 1) + 1 by omega, rnl, if_pos q]
        exact List.mem_cons_self ..
      change (rul B n e).length ≤ n - e at w1
      change ∀ c ∈ rul B n e, c < 256 ∧ (ltr c || dgt c) = true at w2
      obtain ⟨k1, k2, k3⟩ := cnt_all _ w2
      generalize rul B n e = u at *
      have val2 : ∀ k, X1.1 1 k = (u2 (u2 (u2 (u2 (t_n3 (bT X)) 0 6 (sVb u)) 0 3 (nI (e + u.length))) 0 4 (t_kind (nI (clt u)) (nI (cdg u)))) 0 8 (if t_kind (nI (clt u)) (nI (cdg u)) = 1 then lo (fun k a => if bTJ X 2 k = sLt u then nI k else a) 32 (t_n3 (bT X) 0 8) else t_n3 (bT X) 0 8)) 0 k := fun k => by
        rw [val]
        unfold t_rrV
        rw [hR]
      have q8 : t_n3 (bT X) 0 8 = -1 := by simp [t_n3, t_n2, u2]
      have q5 : t_n3 (bT X) 0 5 = nI e := by simp [t_n3, u2, nre]
      have a3 : X1.1 1 3 = nI (e + u.length) := (val2 3).trans ((if_neg (by decide)).trans ((if_neg (by decide)).trans (if_pos ⟨rfl, rfl⟩)))
      have a4 : X1.1 1 4 = t_kind (nI (clt u)) (nI (cdg u)) := (val2 4).trans ((if_neg (by decide)).trans (if_pos ⟨rfl, rfl⟩))
      have a5 : X1.1 1 5 = nI e := (val2 5).trans ((if_neg (by decide)).trans ((if_neg (by decide)).trans ((if_neg (by decide)).trans ((if_neg (by decide)).trans q5))))
      have a6 : X1.1 1 6 = sVb u := (val2 6).trans ((if_neg (by decide)).trans ((if_neg (by decide)).trans ((if_neg (by decide)).trans (if_pos ⟨rfl, rfl⟩))))
      have a8 : X1.1 1 8 = if t_kind (nI (clt u)) (nI (cdg u)) = 1 then lo (fun k a => if X.2.1 3 k = sLt u then nI k else a) 32 (-1) else -1 := by
        refine (val2 8).trans ((if_pos ⟨rfl, rfl⟩).trans ?_)
        rw [q8]
        rfl
      rw [hR] at lal
      dsimp only at lal
      have kd : t_kind (nI (clt u)) (nI (cdg u)) = tkd (ltr (B e)) u := by
        unfold t_kind tkd
        have z0 : (nI (cdg u) = 0) ↔ cdg u = 0 := nI_eq (b := 0) (by omega) (by decide)
        have z1 : (nI (clt u) ≤ 7) ↔ clt u ≤ 7 := nI_leI (b := 7) (by omega) (by decide)
        have z2 : (nI (clt u) = 0) ↔ clt u = 0 := nI_eq (b := 0) (by omega) (by decide)
        have z3 : (nI (cdg u) ≤ 3) ↔ cdg u ≤ 3 := nI_leI (b := 3) (by omega) (by decide)
        cases s : ltr (B e)
        · have nz : ¬ cdg u = 0 := fun z => by
            have := k2.mpr z
            unfold aS at this
            rw [List.all_eq_true] at this
            have := this _ hd
            rw [s] at this
            exact absurd this (by decide)
          rw [if_neg (fun z => nz (z0.mp z.1))]
          by_cases a : aS false u = true
          · have a0 := k3.mp a
            rw [if_pos a, if_neg (show ¬ (false = true) by decide)]
            refine if_iff ⟨fun z => ?_, fun z => ⟨z2.mpr a0, z3.mpr (by omega)⟩⟩
            have := z3.mp z.2
            omega
          · rw [if_neg a, if_neg (fun z => a (k3.mpr (z2.mp z.1)))]
        · have nz : ¬ clt u = 0 := fun z => by
            have := k3.mpr z
            unfold aS at this
            rw [List.all_eq_true] at this
            have := this _ hd
            rw [s] at this
            exact absurd this (by decide)
          have n2 : ¬ (nI (clt u) = 0 ∧ nI (cdg u) ≤ 3) := fun z => nz (z2.mp z.1)
          rw [if_neg n2]
          by_cases a : aS true u = true
          · have a0 := k2.mp a
            rw [if_pos a, if_pos rfl]
            refine if_iff ⟨fun z => ?_, fun z => ⟨z0.mpr a0, z1.mpr (by omega)⟩⟩
            have := z1.mp z.2
            omega
          · rw [if_neg a, if_neg (fun z => a (k2.mpr (z0.mp z.1)))]
      rw [kd] at a4 a8
      refine ⟨X1, Y1, e + u.length, cN, f1, mkB _ (by omega) a3 g4, ⟨by rw [a5, g12], ?_⟩, fr, f2, by omega, fun z => ?_, fun _ => by omega⟩
      · have no : tkd (ltr (B e)) u = 4 → _ := fun z => (Or.inr (Or.inr (Or.inr (Or.inr ⟨g11.trans z, Or.inl (a4.trans z), by rw [a8, if_neg (by rw [z]; decide)]⟩))) : (X1.1 1 4 = 0 ∧ Y1.1 218 11 = 0 ∧ X1.1 1 8 = -1) ∨ (∃ w, isWd w ∧ X1.1 1 4 = 1 ∧ Y1.1 218 11 = 1 ∧ X1.2.1 1 7 = c5 w ∧ Y1.2.1 218 17 = c8 w ∧ X1.1 1 8 = kx w) ∨ (∃ k, k ≤ 999 ∧ X1.1 1 4 = 2 ∧ Y1.1 218 11 = 2 ∧ X1.1 1 6 = nI k ∧ Y1.1 218 14 = nI k ∧ X1.1 1 8 = -1) ∨ (∃ c, sgn c ∧ X1.1 1 4 = 3 ∧ Y1.1 218 11 = 3 ∧ X1.1 1 6 = nI c ∧ Y1.1 218 14 = nI c ∧ X1.1 1 8 = -1) ∨ (Y1.1 218 11 = 4 ∧ (X1.1 1 4 = 4 ∨ X1.1 1 4 = 3 ∧ ∃ c, c < 256 ∧ X1.1 1 6 = nI c ∧ ¬ sgn c) ∧ X1.1 1 8 = -1))
        by_cases a : aS (ltr (B e)) u = true
        · have al : ∀ c ∈ u, ltr c = ltr (B e) := fun c hc => by
            unfold aS at a
            rw [List.all_eq_true] at a
            exact beq_iff_eq.mp (a c hc)
          cases s : ltr (B e)
          · by_cases l : u.length ≤ 3
            · have tk : tkd (ltr (B e)) u = 2 := by unfold tkd; rw [if_pos a, s, if_neg (by decide), if_pos l]
              obtain ⟨k, q1, q2, q3⟩ := run_nb l (fun c hc => by
                obtain ⟨w3, w4⟩ := w2 c hc
                rw [al c hc, s] at w4
                exact of_decide_eq_true w4)
              refine Or.inr (Or.inr (Or.inl ⟨k, q1, a4.trans tk, g11.trans tk, a6.trans q2, g14.trans q3, ?_⟩))
              rw [a8, if_neg (by rw [tk]; decide)]
            · exact no (by unfold tkd; rw [if_pos a, s, if_neg (by decide), if_neg l])
          · by_cases l : u.length ≤ 7
            · have tk : tkd (ltr (B e)) u = 1 := by unfold tkd; rw [if_pos a, s, if_pos rfl, if_pos l]
              obtain ⟨q1, q2, q3⟩ := run_wd w0 l (fun c hc => by
                have := al c hc
                rw [s] at this
                exact of_decide_eq_true this)
              refine Or.inr (Or.inl ⟨_, q1, a4.trans tk, g11.trans tk, lal.trans q2, g17.trans q3, ?_⟩)
              rw [a8, if_pos tk, q2]
              exact key_kx (fun k hk' => (hk k hk').1) q1
            · exact no (by unfold tkd; rw [if_pos a, s, if_pos rfl, if_neg l])
        · exact no (by unfold tkd; rw [if_neg a])
      · exfalso
        rw [a4] at z
        unfold tkd at z
        revert z
        split
        · split
          · split <;> decide
          · split <;> decide
        · decide
    · have val : ∀ k, X1.1 1 k = (u2 (u2 (u2 (t_n3 (bT X)) 0 4 3) 0 6 (nI (B e))) 0 3 (nI (e + 1))) 0 k := fun k => by
        rw [r1]
        unfold t_nextV
        rw [if_neg cc, tst, if_neg (by rw [q]; decide), nre, T1, be]
      have a3 : X1.1 1 3 = nI (e + 1) := by rw [val]; simp [u2]
      have a4 : X1.1 1 4 = 3 := by rw [val]; simp [u2]
      have a5 : X1.1 1 5 = nI e := by rw [val]; simp [u2, t_n3, nre]
      have a6 : X1.1 1 6 = nI (B e) := by rw [val]; simp [u2]
      have a8 : X1.1 1 8 = -1 := by rw [val]; simp [u2, t_n3, t_n2]
      refine ⟨X1, Y1, e + 1, cN, f1, mkB _ (by omega) a3 g4, ⟨by rw [a5, g12], ?_⟩, fr, f2, by omega, fun _ => ⟨e, a5, pe, by omega, c2⟩, fun _ => by omega⟩
      rcases g11 with ⟨z, g11⟩ | ⟨z, g11⟩
      · exact Or.inr (Or.inr (Or.inr (Or.inl ⟨B e, z, a4, g11, a6, g14, a8⟩)))
      · exact Or.inr (Or.inr (Or.inr (Or.inr ⟨g11, Or.inr ⟨a4, B e, b256, a6, z⟩, a8⟩)))
end TN
