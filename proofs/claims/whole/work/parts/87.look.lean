/-! the failures that are kept, and the best look -/
section LO
variable {P V : m_V} {X : X_}
theorem ap_cf (p : Nat → Bool) (v : Nat → Int32) (f : Nat → Int32) (k : Nat) : ∀ n, (ap p v n (f, k)).2 = k + cf p 0 n := by
  intro n
  induction n with
  | zero => rfl
  | succ n ih =>
    rw [ap, cf, Nat.zero_add]
    by_cases c : p n = true
    · rw [if_pos c, if_pos c]
      show (ap p v n (f, k)).2 + 1 = _
      rw [ih]; omega
    · rw [if_neg c, if_neg c, ih]; rfl
/-- each kept one is some f below n -/
theorem ap_mem {p : Nat → Bool} {f : Nat → Int32} : ∀ n i, i < (ap p nI n (f, 0)).2 → ∃ a, a < n ∧ (ap p nI n (f, 0)).1 i = nI a := by
  intro n
  induction n with
  | zero => intro i hi; exact absurd hi (Nat.not_lt_zero i)
  | succ n ih =>
    intro i hi
    rw [ap] at hi ⊢
    by_cases c : p n = true
    · rw [if_pos c] at hi ⊢
      have hi : i < (ap p nI n (f, 0)).2 + 1 := hi
      show ∃ a, a < n + 1 ∧ upS (ap p nI n (f, 0)).1 (ap p nI n (f, 0)).2 (nI n) i = nI a
      by_cases e : i = (ap p nI n (f, 0)).2
      · subst e; rw [upS_eq]; exact ⟨n, by omega, rfl⟩
      · rw [upS_ne e]
        obtain ⟨a, h1, h2⟩ := ih i (by omega)
        exact ⟨a, by omega, h2⟩
    · rw [if_neg c] at hi ⊢
      obtain ⟨a, h1, h2⟩ := ih i hi
      exact ⟨a, by omega, h2⟩
/-- how many of the kept ones would show a section as full -/
def kq (N : Nat) (O : Int32) (φ : Nat → Nat) (c n : Nat) : Nat := cf (fun i => fsh N O (φ i) c) 0 n
def lft (N : Nat) (O : Int32) (φ : Nat → Nat) (n c : Nat) : Nat := if kq N O φ c n < n - kq N O φ c n then n - kq N O φ c n else kq N O φ c n
def bst (l : Nat → Nat) : Nat → Nat
  | 0 => 0
  | c + 1 => if c = 0 then 0 else if l c < l (bst l c) then c else bst l c
theorem kq_le {N : Nat} {O : Int32} {φ : Nat → Nat} {c n : Nat} : kq N O φ c n ≤ n := cf_le _ _ _
theorem lft_le {N : Nat} {O : Int32} {φ : Nat → Nat} {c n : Nat} : lft N O φ n c ≤ n := by
  have := kq_le (N := N) (O := O) (φ := φ) (c := c) (n := n)
  unfold lft
  split <;> omega
theorem lz2_sumb {α : Type} {C : (Int32 → Int32 → RM α) → Int32 → Int32 → RM α} {n : Nat} (hn : n < 4000) (p : Nat → Bool) {E : Int32 → Option (α × X_)}
    (h1 : ∀ q x L, q < n → C L x (nI q) X = L (x + b2 (p q)) (nI (q + 1)) X) (h2 : ∀ x L, C L x (nI n) X = E x) : lz2 C FU 0 0 X = E (nI (cf p 0 n)) := by
  have := lz2_from (B := C) (fun i => nI (cf p 0 i)) (fun _ => X) (n := n) (E := E (nI (cf p 0 n))) (fun i L hi => by
    rw [h1 i _ L hi, cf, Nat.zero_add]
    cases p i
    · rw [show b2 false = nI 0 from rfl, nI_add]; rfl
    · rw [show b2 true = nI 1 from rfl, nI_add]; rfl) (fun L => h2 _ L) n 0 FU (by omega) (by rw [FU_eq]; omega)
  exact this
theorem k_best {N n : Nat} {O : Int32} {φ : Nat → Nat} (hN : 1 ≤ N) (hN2 : N ≤ 12) (hn : n ≤ 25) (h1 : X.1 146 1 = nI n) (h2 : ∀ i, i < n → X.1 147 i = nI (φ i) ∧ φ i ≤ 2 * N) : fX2_bestLook (nI N) O X = some (nI (bst (lft N O φ n) N), X) := by
  unfold fX2_bestLook
  rw [gI_e, h1, nI_1]
  have inner : ∀ (α : Type) c (K : Int32 → RM α), c < N → (lz2 (fun L25 x5 x6 => (gI 146 1 fun v7 => (it (v7 ≤ x6) (K x5) (rA 147 25 x6 fun v9 => (ca (fX2_shownBy v9 (2 * nI N) (nI c) O) fun v10 => (L25 (x5 + v10) (x6 + 1))))))) FU 0 0) X = K (nI (kq N O φ c n)) X := fun α c K hc => by
    refine lz2_sumb (n := n) (by omega) (fun i => fsh N O (φ i) c) (E := fun x => K x X) (fun q x L hq => ?_) (fun x L => ?_)
    · rw [gI_e, h1, it_f (nI_ge hq (by omega)), rA_n (by omega) (by decide), (h2 q hq).1, ix_lm, ca_s (k_shownBy hN2 (h2 q hq).2 (by omega)), nI_1]
    · rw [gI_e, h1, it_t (nI_le (Nat.le_refl _) (by omega))]
  have mx : ∀ c, (if nI (kq N O φ c n) < nI n - nI (kq N O φ c n) then nI n - nI (kq N O φ c n) else nI (kq N O φ c n)) = nI (lft N O φ n c) := fun c => by
    have hk := kq_le (N := N) (O := O) (φ := φ) (c := c) (n := n)
    rw [ix_sub hk, lft]
    by_cases e : kq N O φ c n < n - kq N O φ c n
    · rw [if_pos e, if_pos ((nI_ltI (by omega) (by omega)).mpr e)]
    · rw [if_neg e, if_neg (fun z => e ((nI_ltI (by omega) (by omega)).mp z))]
  refine lz3_post (n := N) (fun c x y Y => Y = X ∧ ((c = 0 ∧ x = -1 ∧ y = nI (n + 1)) ∨ (1 ≤ c ∧ x = nI (bst (lft N O φ n) c) ∧ y = nI (lft N O φ n (bst (lft N O φ n) c))))) (fun o => o = some (nI (bst (lft N O φ n) N), X)) (fun x y Y L hI => ?_) (fun c x y Y L hc hI ih => ?_) N 0 FU (-1) (nI (n + 1)) X (by omega) (by rw [FU_eq]; omega) ⟨rfl, Or.inl ⟨rfl, rfl, rfl⟩⟩
  · obtain ⟨rfl, h | ⟨-, rfl, rfl⟩⟩ := hI
    · omega
    · rw [it_t (nI_le (Nat.le_refl _) (by omega))]; rfl
  · obtain ⟨rfl, hI⟩ := hI
    rw [it_f (nI_ge hc (by omega)), inner Int32 c (fun x5 => (gI 146 1 fun v8 => (it (y ≤ (if x5 < (v8 - x5) then (v8 - x5) else x5)) (L x y (nI c + 1)) (L (nI c) (if x5 < (v8 - x5) then (v8 - x5) else x5) (nI c + 1))))) hc, gI_e, h1, mx c, nI_1]
    have hl := lft_le (N := N) (O := O) (φ := φ) (c := c) (n := n)
    rcases hI with ⟨rfl, rfl, rfl⟩ | ⟨c1, rfl, rfl⟩
    · rw [it_f (nI_ge (by omega) (by omega))]
      exact ih _ _ _ ⟨rfl, Or.inr ⟨by decide, rfl, rfl⟩⟩
    · have hl2 := lft_le (N := N) (O := O) (φ := φ) (c := bst (lft N O φ n) c) (n := n)
      have eb : bst (lft N O φ n) (c + 1) = if lft N O φ n c < lft N O φ n (bst (lft N O φ n) c) then c else bst (lft N O φ n) c := by rw [bst, if_neg (by omega)]
      by_cases e : lft N O φ n c < lft N O φ n (bst (lft N O φ n) c)
      · rw [it_f (nI_ge e (by omega))]
        rw [if_pos e] at eb
        exact ih _ _ _ ⟨rfl, Or.inr ⟨by omega, by rw [eb], by rw [eb]⟩⟩
      · rw [it_t (nI_le (by omega) (by omega))]
        rw [if_neg e] at eb
        exact ih _ _ _ ⟨rfl, Or.inr ⟨by omega, by rw [eb], by rw [eb]⟩⟩
theorem e_leftBy {n : Nat} {φ : Nat → Nat} (hL : RLa P (X.1 220)) (w : okP P) (hS : RS P V (X.1 220)) (hD : wfD P V) (hn : n ≤ 25) (h1 : X.1 218 33 = nI n) (h2 : ∀ i, i < n → X.1 231 i = nI (φ i) ∧ φ i ≤ 2 * ct P 0) {c : Nat} (hc : c < ct P 0) : fX12_leftBy (nI c) X = some (nI (lft (ct P 0) (s_occupied P V) φ n c), X) := by
  have c0 := w.c0.2
  unfold fX12_leftBy
  refine lz2_sumb (n := n) (by omega) (fun i => fsh (ct P 0) (s_occupied P V) (φ i) c) (E := fun x => (gI 218 33 fun v4 => (ca (fX12_greater x (v4 - x)) fun v5 => (re v5))) X) (fun q x L hq => ?_) (fun x L => ?_) |>.trans ?_
  · rw [gI_e, h1, it_f (nI_ge hq (by omega)), rA_n (by omega) (by decide), (h2 q hq).1, ca_s (e_showsAt hL w hS hD (h2 q hq).2 hc), nI_1]
  · rw [gI_e, h1, it_t (nI_le (Nat.le_refl _) (by omega))]
  · have hk : cf (fun i => fsh (ct P 0) (s_occupied P V) (φ i) c) 0 n = kq (ct P 0) (s_occupied P V) φ c n := rfl
    have hk2 := kq_le (N := ct P 0) (O := s_occupied P V) (φ := φ) (c := c) (n := n)
    rw [hk, gI_e, h1, ca_re, ix_sub hk2, fX12_greater, lft]
    by_cases e : kq (ct P 0) (s_occupied P V) φ c n < n - kq (ct P 0) (s_occupied P V) φ c n
    · rw [if_pos e, it_t (nI_le (by omega) (by omega))]; rfl
    · rw [if_neg e]
      by_cases g : kq (ct P 0) (s_occupied P V) φ c n = n - kq (ct P 0) (s_occupied P V) φ c n
      · rw [it_t (nI_le (by omega) (by omega)), ← g]; rfl
      · rw [it_f (nI_ge (by omega) (by omega))]; rfl
theorem e_best {n : Nat} {φ : Nat → Nat} (hL : RLa P (X.1 220)) (w : okP P) (hS : RS P V (X.1 220)) (hD : wfD P V) (hN : 1 ≤ ct P 0) (hn : n ≤ 25) (h1 : X.1 218 33 = nI n) (h2 : ∀ i, i < n → X.1 231 i = nI (φ i) ∧ φ i ≤ 2 * ct P 0) (x6 : Int32) : (pI 218 34 0 (lz1 (fun L185 x11 => (rA 220 469 0 fun v12 => (it (v12 ≤ x11) (re x6) (ca (fX12_leftBy x11) fun v13 => (gI 218 34 fun v14 => (ca (fX12_leftBy v14) fun v15 => (it (v15 ≤ v13) (L185 (x11 + 1)) (pI 218 34 x11 (L185 (x11 + 1)))))))))) FU 1)) X = some (x6, sI X 218 34 (nI (bst (lft (ct P 0) (s_occupied P V) φ n) (ct P 0)))) := by
  have c0 := w.c0.2
  rw [pI_e]
  have bl : ∀ c, 1 ≤ c → bst (lft (ct P 0) (s_occupied P V) φ n) c < c := by
    intro c
    induction c with
    | zero => intro h; omega
    | succ c ih =>
      intro _
      rw [bst]
      by_cases e : c = 0
      · rw [if_pos e]; omega
      · rw [if_neg e]
        have := ih (by omega)
        split <;> omega
  have := lz1_from (B := (fun L185 x11 => (rA 220 469 0 fun v12 => (it (v12 ≤ x11) (re x6) (ca (fX12_leftBy x11) fun v13 => (gI 218 34 fun v14 => (ca (fX12_leftBy v14) fun v15 => (it (v15 ≤ v13) (L185 (x11 + 1)) (pI 218 34 x11 (L185 (x11 + 1))))))))))) (fun c => sI X 218 34 (nI (bst (lft (ct P 0) (s_occupied P V) φ n) c))) (n := ct P 0) (E := some (x6, sI X 218 34 (nI (bst (lft (ct P 0) (s_occupied P V) φ n) (ct P 0))))) (fun c L hc => ?_) (fun L => ?_) (ct P 0 - 1) 1 FU (by omega) (by rw [FU_eq]; omega)
  · exact this
  · generalize hl : lft (ct P 0) (s_occupied P V) φ n = l at bl
    have b0 : bst l c < ct P 0 := by
      by_cases e : c = 0
      · subst e; exact hN
      · have := bl c (by omega); omega
    have y220 : (sI X 218 34 (nI (bst l c))).1 220 = X.1 220 := sI_row (by decide)
    have y33 : (sI X 218 34 (nI (bst l c))).1 218 33 = nI n := by rw [sI_ne (by decide)]; exact h1
    have y231 : (sI X 218 34 (nI (bst l c))).1 231 = X.1 231 := sI_row (by decide)
    have left : ∀ k, k < ct P 0 → fX12_leftBy (nI k) (sI X 218 34 (nI (bst l c))) = some (nI (l k), sI X 218 34 (nI (bst l c))) := fun k hk => by
      rw [← congrFun hl k]
      exact e_leftBy (by rw [y220]; exact hL) w (by rw [y220]; exact hS) hD hn y33 (by rw [y231]; exact h2) hk
    have ll : ∀ k, l k ≤ 25 := fun k => by rw [← hl]; exact Nat.le_trans lft_le hn
    have l1 := ll c
    have l2 := ll (bst l c)
    rw [rA_l (by decide) (by decide), y220, hL.n0 w, it_f (nI_ge hc (by omega)), ca_s (left c hc), gI_e, sI_eq, ca_s (left _ b0), nI_1, bst]
    by_cases e : c = 0
    · subst e
      rw [if_pos rfl, it_t (show nI (l (bst l 0)) ≤ nI (l 0) from nI_le (Nat.le_refl _) (by omega))]
      rfl
    · rw [if_neg e]
      by_cases g : l c < l (bst l c)
      · rw [if_pos g, it_f (nI_ge g (by omega)), pI_e, sI_sI]
      · rw [if_neg g, it_t (nI_le (by omega) (by omega))]
  · rw [rA_l (by decide) (by decide), sI_row (by decide), hL.n0 w, it_t (nI_le (Nat.le_refl _) (by omega))]; rfl
end LO
