/-! how many are missing, how many are spare, how many go together -/
section LK
variable {P V : m_V} {X : X_}
/-- how many of those from i on, m of them, p holds of -/
def cf (p : Nat → Bool) (i : Nat) : Nat → Nat
  | 0 => 0
  | m + 1 => cf p i m + (if p (i + m) = true then 1 else 0)
def sm (f : Nat → Nat) : Nat → Nat
  | 0 => 0
  | n + 1 => sm f n + f n
theorem cf_le (p : Nat → Bool) (i : Nat) : ∀ m, cf p i m ≤ m := by
  intro m
  induction m with
  | zero => exact Nat.le_refl _
  | succ m ih => rw [cf]; split <;> omega
theorem cf_congr {p q : Nat → Bool} {i : Nat} : ∀ m, (∀ j, i ≤ j → j < i + m → p j = q j) → cf p i m = cf q i m := by
  intro m
  induction m with
  | zero => intro _; rfl
  | succ m ih => intro h; rw [cf, cf, ih (fun j a b => h j a (by omega)), h (i + m) (by omega) (by omega)]
theorem cf_none {p : Nat → Bool} {i : Nat} : ∀ m, (∀ j, i ≤ j → j < i + m → p j = false) → cf p i m = 0 := by
  intro m
  induction m with
  | zero => intro _; rfl
  | succ m ih => intro h; rw [cf, ih (fun j a b => h j a (by omega)), h (i + m) (by omega) (by omega)]; rfl
theorem cf_split (p : Nat → Bool) (i a : Nat) : ∀ b, cf p i (a + b) = cf p i a + cf p (i + a) b := by
  intro b
  induction b with
  | zero => rfl
  | succ b ih => rw [show a + (b + 1) = (a + b) + 1 by omega, cf, cf, ih, Nat.add_assoc, Nat.add_assoc]
theorem sm_congr {f g : Nat → Nat} : ∀ n, (∀ i, i < n → f i = g i) → sm f n = sm g n := by
  intro n
  induction n with
  | zero => intro _; rfl
  | succ n ih => intro h; rw [sm, sm, ih (fun i hi => h i (by omega)), h n (by omega)]
theorem sm_le {f : Nat → Nat} {c : Nat} : ∀ n, (∀ i, i < n → f i ≤ c) → sm f n ≤ n * c := by
  intro n
  induction n with
  | zero => intro _; exact Nat.zero_le _
  | succ n ih => intro h; rw [sm, Nat.succ_mul]; exact Nat.add_le_add (ih (fun i hi => h i (by omega))) (h n (by omega))
theorem sm_add (f g : Nat → Nat) : ∀ n, sm (fun i => f i + g i) n = sm f n + sm g n := by
  intro n
  induction n with
  | zero => rfl
  | succ n ih => rw [sm, sm, sm, ih]; omega
theorem sm_cf (p : Nat → Bool) : ∀ n, sm (fun i => if p i = true then 1 else 0) n = cf p 0 n := by
  intro n
  induction n with
  | zero => rfl
  | succ n ih => rw [sm, cf, ih, Nat.zero_add]
theorem lowB_n {x : Int32} {n : Nat} (h : lowB x n) : ∃ k, k < 2 ^ n ∧ x = nI k := by
  refine ⟨x.toBitVec.toNat, ?_, ?_⟩
  · refine Nat.lt_pow_two_of_testBit _ (fun i hi => ?_)
    rw [BitVec.testBit_toNat]
    by_cases c : i < 32
    · exact h i hi c
    · exact BitVec.getLsbD_of_ge _ _ (by omega)
  · refine Int32.toBitVec_inj.mp ?_
    rw [show (nI x.toBitVec.toNat).toBitVec = BitVec.ofNat 32 x.toBitVec.toNat from rfl, BitVec.ofNat_toNat, BitVec.setWidth_eq]
theorem bt_nI {k i : Nat} (hi : i < 32) : bt (nI k) i = k.testBit i := by
  show (BitVec.ofNat 32 k).getLsbD i = _
  rw [BitVec.getLsbD_ofNat, decide_eq_true hi, Bool.true_and]
theorem nI_low {k n : Nat} (h : k < 2 ^ n) : lowB (nI k) n := fun i h1 hi => by
  rw [bt_nI hi]
  exact Nat.testBit_lt_two_pow (Nat.lt_of_lt_of_le h (Nat.pow_le_pow_right (by decide) h1))
theorem bc_all : ∀ k, k < 1024 → bc (nI k) = nI (cf (fun i => k.testBit i) 0 10) := by decide +kernel
theorem bc_cf {x : Int32} (h : lowB x 10) : bc x = nI (cf (bt x) 0 10) := by
  obtain ⟨k, hk, rfl⟩ := lowB_n h
  rw [bc_all k hk, cf_congr 10 (fun j _ hj => (bt_nI (by omega)).symm)]
theorem lowB.mono {x : Int32} {m n : Nat} (h : lowB x m) (hm : m ≤ n) : lowB x n := fun i h1 hi => h i (by omega) hi
theorem cf_low {p : Nat → Bool} {n : Nat} (hn : n ≤ 10) (h : ∀ i, n ≤ i → i < 10 → p i = false) : cf p 0 10 = cf p 0 n := by
  have := cf_split p 0 n (10 - n)
  rw [show n + (10 - n) = 10 by omega, cf_none (i := 0 + n) (10 - n) (fun j a b => h j (by omega) (by omega))] at this
  exact this
/-- the reference's missing pair -/
def lk (P : m_V) (r q : Nat) : Bool := (decide (q ≠ r) && p_conflict P r q) && (!bt (P 17 r) q && decide (¬ P 11 r = P 11 q))
theorem e_isLacking (hL : RLa P (X.1 220)) (w : okP P) (hR : wfR P) {r q : Nat} (hr : r < ct P 4) (hq : q < ct P 4) : fX12_isLacking (nI r) (nI q) X = some (b2 (lk P r q), X) := by
  have hb := w.c4.2
  unfold fX12_isLacking lk
  rw [ca_s (e_isConflict hL w hR hr hq)]
  cases (decide (q ≠ r) && p_conflict P r q)
  · rw [it_t (show b2 false = 0 from rfl)]; rfl
  · rw [it_f (by decide), ix_la, rA_n (by omega) (by decide), hL.r17 hr, ca_s (e_bitOf _ (by omega))]
    cases bt (P 17 r) q
    · rw [it_t (show b2 false = 0 from rfl), ix_la, rA_n (by omega) (by decide), hL.r11 hr, ix_la, rA_n (by omega) (by decide), hL.r11 hq]
      by_cases e : P 11 r = P 11 q
      · rw [it_t e, decide_eq_false (fun z => z e)]; rfl
      · rw [it_f e, decide_eq_true e]; rfl
    · rw [it_f (by decide)]; rfl
theorem lackB_bt (w : okP P) (hC : wfC P) {r q : Nat} (hr : r < ct P 4) (hq : q < 32) : bt (p_lackB P r) q = (decide (r < q) && (decide (q < ct P 4) && lk P r q)) := by
  have hb := w.c4.2
  unfold p_lackB lk
  rw [b_and, b_and, b_and, b_not hq, b_not hq, hC r hr, b_bo _ _ (by omega) q hq, p_routesOf, b_bo _ _ (by omega) q hq, nI_1, b_shl (r + 1) (by omega) (-1) hq]
  by_cases c : r < q
  · rw [decide_eq_true c, decide_eq_true (show r + 1 ≤ q from c), b_m1 _ (by omega)]
    by_cases c2 : q < ct P 4
    · rw [decide_eq_true c2]
      by_cases e : P 11 q = P 11 r
      · simp [e]
      · simp [e, Ne.symm (a := P 11 q) e, show ¬ P 11 r = P 11 q from fun z => e z.symm]
    · rw [decide_eq_false c2]; simp
  · rw [decide_eq_false c, decide_eq_false (show ¬ r + 1 ≤ q from c)]; simp
def lkS (P : m_V) (n : Nat) : Nat := sm (fun r => cf (lk P r) (r + 1) (ct P 4 - (r + 1))) n
theorem lo_sum {f : Nat → Int32} {g : Nat → Nat} : ∀ n, (∀ i, i < n → f i = nI (g i)) → lo (fun r (a : Int32) => a + f r) n 0 = nI (sm g n) := by
  intro n
  induction n with
  | zero => intro _; rfl
  | succ n ih => intro h; rw [lo, ih (fun i hi => h i (by omega)), h n (by omega), sm, nI_add]
theorem lackB_low (w : okP P) (hC : wfC P) {r : Nat} (hr : r < ct P 4) : lowB (p_lackB P r) (ct P 4) := fun i h1 hi => by
  rw [lackB_bt w hC hr hi, decide_eq_false (show ¬ i < ct P 4 by omega)]; simp
theorem countLacking_eq (w : okP P) (hC : wfC P) : p_countLacking P = nI (lkS P (ct P 4)) := by
  have hb := w.c4.2
  refine lo_sum _ (fun r hr => ?_)
  have lw := lackB_low w hC hr
  rw [bc_cf (lw.mono hb), cf_low hb (fun i h1 h2 => lw i h1 (by omega))]
  have := cf_split (bt (p_lackB P r)) 0 (r + 1) (ct P 4 - (r + 1))
  rw [show r + 1 + (ct P 4 - (r + 1)) = ct P 4 by omega, cf_none (r + 1) (fun j a b => by rw [lackB_bt w hC hr (by omega), decide_eq_false (show ¬ r < j by omega)]; rfl), Nat.zero_add] at this
  rw [this, cf_congr (q := lk P r) (ct P 4 - (r + 1)) (fun j a b => by rw [lackB_bt w hC hr (by omega), decide_eq_true (show r < j by omega), decide_eq_true (show j < ct P 4 by omega)]; rfl), Nat.zero_add]
theorem lz2_cf {α : Type} {C : (Int32 → Int32 → RM α) → Int32 → Int32 → RM α} {i n : Nat} (hn : n ≤ 10) (p : Nat → Bool) (a : Nat) {E : Int32 → Option (α × X_)}
    (h1 : ∀ q x L, q < n → C L x (nI q) X = if p q = true then L (x + 1) (nI (q + 1)) X else L x (nI (q + 1)) X) (h2 : ∀ x L, C L x (nI n) X = E x) (hi : i ≤ n) : lz2 C FU (nI a) (nI i) X = E (nI (a + cf p i (n - i))) := by
  have h3 : ∀ m j f x, j + m = n → m < f → lz2 C f (nI x) (nI j) X = E (nI (x + cf p j m)) := by
    intro m
    induction m with
    | zero =>
      intro j f x hj hf
      obtain ⟨f, rfl⟩ : ∃ g, f = g + 1 := ⟨f - 1, by omega⟩
      rw [lz2_s, show j = n by omega, h2]; rfl
    | succ m ih =>
      intro j f x hj hf
      obtain ⟨f, rfl⟩ : ∃ g, f = g + 1 := ⟨f - 1, by omega⟩
      have e : cf p j (m + 1) = (if p j = true then 1 else 0) + cf p (j + 1) m := by
        have := cf_split p j 1 m
        rw [show 1 + m = m + 1 by omega] at this
        rw [this, cf, cf, Nat.zero_add, Nat.add_zero]
      rw [lz2_s, h1 j _ _ (by omega), e]
      split
      · rw [show nI x + 1 = nI (x + 1) from (nI_add x 1), ih (j + 1) f (x + 1) (by omega) (by omega), Nat.add_assoc]
      · rw [ih (j + 1) f x (by omega) (by omega), Nat.zero_add]
  exact h3 (n - i) i FU a (by omega) (by rw [FU_eq]; omega)
theorem sim_lacking : Sim fX11_lacking fX12_lacking := sim_rd (fun X hX => by
  have w := hX.w
  have ok := w.ok
  have c4 := ok.c4.2
  have hL := hX.L
  refine ⟨nI (lkS (bP X 4) (ct (bP X 4) 4)), ?_, ?_⟩
  · unfold fX11_lacking
    rw [ca_re, ← countLacking_eq ok w.c]
    exact gd_t ok
  · refine lz2_from (fun i => nI (lkS (bP X 4) i)) (fun _ => sI X 218 0 0) (n := ct (bP X 4) 4) (fun r L hr => ?_) (fun L => ?_) (ct (bP X 4) 4) 0 FU (by omega) (by rw [FU_eq]; omega)
    · rw [rA_l (by decide) (by decide), hL.n4 ok, it_f (nI_ge hr (by omega)), nI_1]
      refine lz2_cf (i := r + 1) (E := fun x => L x (nI (r + 1)) (sI X 218 0 0)) c4 (lk (bP X 4) r) (lkS (bP X 4) r) (fun q x L' hq => ?_) (fun x L' => ?_) (by omega)
      · rw [rA_l (by decide) (by decide), hL.n4 ok, it_f (nI_ge hq (by omega)), ca_s (e_isLacking hL ok w.l.r hr hq), nI_1]
        cases lk (bP X 4) r q
        · rw [it_t (show b2 false = 0 from rfl), Int32.add_zero]; rfl
        · rw [it_f (show ¬ b2 true = 0 by decide)]; rfl
      · rw [rA_l (by decide) (by decide), hL.n4 ok, it_t (nI_le (Nat.le_refl _) (by omega))]
    · rw [rA_l (by decide) (by decide), hL.n4 ok, it_t (nI_le (Nat.le_refl _) (by omega))]; rfl)
/-- one that is there and that no conflict asks for -/
def sp (P : m_V) (r q : Nat) : Bool := bt (P 17 r) q && !(decide (q ≠ r) && p_conflict P r q)
theorem conflict_sym (P : m_V) (r q : Nat) : p_conflict P r q = p_conflict P q r := by
  unfold p_conflict
  rw [Int32.and_comm (P 14 r), Int32.and_comm (P 15 r), Int32.and_comm (P 16 r)]
  by_cases e : P 11 r = P 11 q
  · rw [decide_eq_true e, decide_eq_true e.symm]; rfl
  · rw [decide_eq_false e, decide_eq_false (p := P 11 q = P 11 r) (fun z => e z.symm), Bool.or_assoc, Bool.or_assoc, Bool.or_assoc, Bool.or_comm (decide (¬ P 16 q &&& P 15 r = 0)), Bool.or_assoc]
theorem sp_sym (hK : wfK P) {r q : Nat} (hr : r < ct P 4) (hq : q < ct P 4) : sp P r q = sp P q r := by
  unfold sp
  rw [hK r q hr hq, conflict_sym]
  by_cases e : q = r
  · subst e; rfl
  · rw [decide_eq_true (show q ≠ r from e), decide_eq_true (show r ≠ q from fun z => e z.symm)]
theorem dbl {p : Nat → Nat → Bool} : ∀ n, (∀ r q, r < n → q < n → p r q = p q r) → (∀ r, r < n → p r r = false) → sm (fun r => cf (p r) 0 n) n = 2 * sm (fun r => cf (p r) (r + 1) (n - (r + 1))) n := by
  intro n
  induction n with
  | zero => intro _ _; rfl
  | succ n ih =>
    intro h1 h2
    have ih := ih (fun r q a b => h1 r q (by omega) (by omega)) (fun r a => h2 r (by omega))
    have col : sm (fun i => if p i n = true then 1 else 0) n = cf (p n) 0 n := by
      rw [sm_congr n (fun i hi => by rw [h1 i n (by omega) (by omega)])]
      exact sm_cf (p n) n
    have e1 : sm (fun r => cf (p r) 0 (n + 1)) n = sm (fun r => cf (p r) 0 n) n + cf (p n) 0 n := by
      rw [← col, ← sm_add]
      exact sm_congr n (fun i hi => by rw [cf, Nat.zero_add])
    have e2 : sm (fun r => cf (p r) (r + 1) (n + 1 - (r + 1))) n = sm (fun r => cf (p r) (r + 1) (n - (r + 1))) n + cf (p n) 0 n := by
      rw [← col, ← sm_add]
      refine sm_congr n (fun i hi => ?_)
      rw [show n + 1 - (i + 1) = (n - (i + 1)) + 1 by omega, cf, show i + 1 + (n - (i + 1)) = n by omega]
    rw [sm, sm, e1, e2, ih, cf, Nat.zero_add, h2 n (by omega), show n + 1 - (n + 1) = 0 by omega, cf]
    simp only [Bool.false_eq_true, if_false]
    omega
theorem half_all : ∀ k, k < 128 → nI (2 * k) / 2 = nI k := by decide +kernel
theorem countSpare_eq (w : okP P) (hR : wfR P) (hK : wfK P) (hC : wfC P) : p_countSpare P = nI (sm (fun r => cf (sp P r) (r + 1) (ct P 4 - (r + 1))) (ct P 4)) := by
  have hb := w.c4.2
  unfold p_countSpare
  rw [lo_sum (g := fun r => cf (sp P r) 0 (ct P 4)) _ (fun r hr => ?_), dbl _ (fun r q a b => sp_sym hK a b) (fun r a => ?_), half_all]
  · have : sm (fun r => cf (sp P r) (r + 1) (ct P 4 - (r + 1))) (ct P 4) ≤ ct P 4 * 10 := sm_le _ (fun i hi => Nat.le_trans (cf_le _ _ _) (by omega))
    show sm (fun r => cf (sp P r) (r + 1) (ct P 4 - (r + 1))) (ct P 4) < 128
    omega
  · unfold sp
    rw [(hR r a).2.2.2.2.2]; rfl
  · obtain ⟨-, -, -, -, lw, -⟩ := hR r hr
    have lw2 : lowB (P 17 r &&& (P 18 r ^^^ -1)) (ct P 4) := lw.and
    rw [bc_cf (lw2.mono hb), cf_low hb (fun i h1 h2 => lw2 i h1 (by omega))]
    refine congrArg nI (cf_congr _ (fun j a b => ?_))
    rw [b_and, b_not (by omega), hC r hr, b_bo _ _ (by omega) j (by omega), decide_eq_true (show j < ct P 4 by omega), Bool.true_and]
    rfl
theorem sim_spare : Sim fX11_spare fX12_spare := sim_rd (fun X hX => by
  have w := hX.w
  have ok := w.ok
  have c4 := ok.c4.2
  have hL := hX.L
  refine ⟨nI (sm (fun r => cf (sp (bP X 4) r) (r + 1) (ct (bP X 4) 4 - (r + 1))) (ct (bP X 4) 4)), ?_, ?_⟩
  · unfold fX11_spare
    rw [ca_re, ← countSpare_eq ok w.l.r w.l.k w.c]
    exact gd_t ok
  · refine lz2_from (fun i => nI (sm (fun r => cf (sp (bP X 4) r) (r + 1) (ct (bP X 4) 4 - (r + 1))) i)) (fun _ => sI X 218 0 0) (n := ct (bP X 4) 4) (fun r L hr => ?_) (fun L => ?_) (ct (bP X 4) 4) 0 FU (by omega) (by rw [FU_eq]; omega)
    · rw [rA_l (by decide) (by decide), hL.n4 ok, it_f (nI_ge hr (by omega)), nI_1]
      refine lz2_cf (i := r + 1) (E := fun x => L x (nI (r + 1)) (sI X 218 0 0)) c4 (sp (bP X 4) r) (sm (fun r => cf (sp (bP X 4) r) (r + 1) (ct (bP X 4) 4 - (r + 1))) r) (fun q x L' hq => ?_) (fun x L' => ?_) (by omega)
      · rw [rA_l (by decide) (by decide), hL.n4 ok, it_f (nI_ge hq (by omega)), ix_la, rA_n (by omega) (by decide), hL.r17 hr, ca_s (e_bitOf _ (by omega)), nI_1, sp]
        cases bt (bP X 4 17 r) q
        · rw [it_t (show b2 false = 0 from rfl), Int32.add_zero]; rfl
        · rw [it_f (show ¬ b2 true = 0 by decide), ca_s (e_isConflict hL ok w.l.r hr hq)]
          cases (decide (q ≠ r) && p_conflict (bP X 4) r q)
          · rw [it_t (show b2 false = 0 from rfl)]; rfl
          · rw [it_f (show ¬ b2 true = 0 by decide), Int32.add_zero]; rfl
      · rw [rA_l (by decide) (by decide), hL.n4 ok, it_t (nI_le (Nat.le_refl _) (by omega))]
    · rw [rA_l (by decide) (by decide), hL.n4 ok, it_t (nI_le (Nat.le_refl _) (by omega))]; rfl)
theorem sim_lacks (k : Int32) : Sim (fX11_lacks k) (fX12_lacks k) := sim_rd (fun X hX => by
  have w := hX.w
  have ok := w.ok
  have c4 := ok.c4.2
  have hL := hX.L
  refine ⟨p_lackingAt (bP X 4) k, ?_, ?_⟩
  · unfold fX11_lacks
    rw [ca_re]
    exact gd_t ok
  · have inner : ∀ (L9 : Int32 → Int32 → RM Int32) (r : Nat), r < ct (bP X 4) 4 → ∀ m q n f, q + m = ct (bP X 4) 4 → r < q → m < f → lz2 (fun L24 x4 x5 => (rA 220 469 4 fun v6 => (it (v6 ≤ x5) (L9 x4 (nI (r + 1))) (ca (fX12_isLacking (nI r) x5) fun v7 => (it (v7 = 0) (L24 x4 (x5 + 1)) (it (x4 = k) (re ((16 * nI r) + x5)) (L24 (x4 + 1) (x5 + 1)))))))) f n (nI q) (sI X 218 0 0) = match p_lackQ (bP X 4) k r q m n with | .inl x => some (x, sI X 218 0 0) | .inr n' => L9 n' (nI (r + 1)) (sI X 218 0 0) := by
      intro L9 r hr m
      induction m with
      | zero =>
        intro q n f hq hrq hf
        obtain ⟨f, rfl⟩ : ∃ g, f = g + 1 := ⟨f - 1, by omega⟩
        rw [lz2_s, rA_l (by decide) (by decide), hL.n4 ok, it_t (nI_le (by omega) (by omega)), p_lackQ]
      | succ m ih =>
        intro q n f hq hrq hf
        obtain ⟨f, rfl⟩ : ∃ g, f = g + 1 := ⟨f - 1, by omega⟩
        rw [lz2_s, rA_l (by decide) (by decide), hL.n4 ok, it_f (nI_ge (by omega) (by omega)), ca_s (e_isLacking hL ok w.l.r hr (by omega)), p_lackQ, b_tst (by omega), lackB_bt ok w.c hr (by omega), decide_eq_true hrq, decide_eq_true (show q < ct (bP X 4) 4 by omega), Bool.true_and, Bool.true_and]
        cases lk (bP X 4) r q
        · rw [it_t (show b2 false = 0 from rfl), nI_1, if_neg (show ¬ b2 false = 1 by decide)]
          exact ih (q + 1) n f (by omega) (by omega) (by omega)
        · rw [it_f (show ¬ b2 true = 0 by decide), if_pos (show b2 true = 1 from rfl)]
          by_cases e : n = k
          · rw [it_t e, if_pos e]; rfl
          · rw [it_f e, if_neg e, nI_1]
            exact ih (q + 1) (n + 1) f (by omega) (by omega) (by omega)
    have outer : ∀ m r n f, r + m = ct (bP X 4) 4 → m < f → lz2 (fun L9 x1 x2 => (rA 220 469 4 fun v3 => (it (v3 ≤ x2) (re (-1)) (lz2 (fun L24 x4 x5 => (rA 220 469 4 fun v6 => (it (v6 ≤ x5) (L9 x4 (x2 + 1)) (ca (fX12_isLacking x2 x5) fun v7 => (it (v7 = 0) (L24 x4 (x5 + 1)) (it (x4 = k) (re ((16 * x2) + x5)) (L24 (x4 + 1) (x5 + 1)))))))) FU x1 (x2 + 1))))) f n (nI r) (sI X 218 0 0) = some (p_lackR (bP X 4) k (ct (bP X 4) 4) r m n, sI X 218 0 0) := by
      intro m
      induction m with
      | zero =>
        intro r n f hr hf
        obtain ⟨f, rfl⟩ : ∃ g, f = g + 1 := ⟨f - 1, by omega⟩
        rw [lz2_s, rA_l (by decide) (by decide), hL.n4 ok, it_t (nI_le (by omega) (by omega))]; rfl
      | succ m ih =>
        intro r n f hr hf
        obtain ⟨f, rfl⟩ : ∃ g, f = g + 1 := ⟨f - 1, by omega⟩
        rw [lz2_s, rA_l (by decide) (by decide), hL.n4 ok, it_f (nI_ge (by omega) (by omega)), nI_1]
        have := inner (lz2 (fun L9 x1 x2 => (rA 220 469 4 fun v3 => (it (v3 ≤ x2) (re (-1)) (lz2 (fun L24 x4 x5 => (rA 220 469 4 fun v6 => (it (v6 ≤ x5) (L9 x4 (x2 + 1)) (ca (fX12_isLacking x2 x5) fun v7 => (it (v7 = 0) (L24 x4 (x5 + 1)) (it (x4 = k) (re ((16 * x2) + x5)) (L24 (x4 + 1) (x5 + 1)))))))) FU x1 (x2 + 1))))) f) r (by omega) (ct (bP X 4) 4 - (r + 1)) (r + 1) n FU (by omega) (by omega) (by rw [FU_eq]; omega)
        rw [this, p_lackR]
        cases p_lackQ (bP X 4) k r (r + 1) (ct (bP X 4) 4 - (r + 1)) n with
        | inl x => rfl
        | inr n' => exact ih (r + 1) n' f (by omega) (by omega)
    exact outer (ct (bP X 4) 4) 0 0 FU (by omega) (by rw [FU_eq]; omega))
end LK
