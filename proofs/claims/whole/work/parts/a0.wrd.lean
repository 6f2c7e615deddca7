/-! words and their two codes (the first rows: kit/laws/BITS.to-paste, families wb and pf) -/
theorem wb_tb (n : Nat) : (lN n).toBitVec = BitVec.ofNat 64 n := rfl
theorem wb_inj {a b : Int64} (h : a.toBitVec = b.toBitVec) : a = b := Int64.toBitVec_inj.mp h
theorem wb_tn {n : Nat} (h : n < 2 ^ 64) : (lN n).toBitVec.toNat = n := by rw [wb_tb, BitVec.toNat_ofNat, Nat.mod_eq_of_lt h]
theorem wb_c : ∀ k, k < 64 → ((nI k).toInt64 &&& 63) = lN k := by decide +kernel
theorem wb_sm : ∀ k, k < 64 → (BitVec.ofNat 64 k).smod 64 = BitVec.ofNat 64 k := by decide +kernel
theorem wb_lt2 {a b : Nat} (h : a < b) : 2 ^ a < 2 ^ b := Nat.pow_lt_pow_right (by decide) h
theorem wb_shl (n : Nat) {k : Nat} (hk : k < 64) : lN n <<< ((nI k).toInt64 &&& 63) = lN (n * 2 ^ k) := by
  rw [wb_c k hk]
  apply wb_inj
  rw [Int64.toBitVec_shiftLeft, wb_tb, wb_tb, wb_tb, wb_sm k hk]
  apply BitVec.eq_of_toNat_eq
  rw [BitVec.shiftLeft_eq', BitVec.toNat_shiftLeft, BitVec.toNat_ofNat, BitVec.toNat_ofNat, BitVec.toNat_ofNat, Nat.mod_eq_of_lt (show k < 2 ^ 64 by omega), Nat.shiftLeft_eq, Nat.mul_mod, Nat.mod_mod, ← Nat.mul_mod]
theorem wb_and {a b : Nat} (ha : a < 2 ^ 64) (hb : b < 2 ^ 64) : lN a &&& lN b = lN (a &&& b) := by
  apply wb_inj
  rw [Int64.toBitVec_and, wb_tb, wb_tb, wb_tb]
  apply BitVec.eq_of_toNat_eq
  rw [BitVec.toNat_and, BitVec.toNat_ofNat, BitVec.toNat_ofNat, BitVec.toNat_ofNat, Nat.mod_eq_of_lt ha, Nat.mod_eq_of_lt hb, Nat.mod_eq_of_lt (Nat.and_lt_two_pow _ hb)]
theorem wb_or {a b : Nat} (ha : a < 2 ^ 64) (hb : b < 2 ^ 64) : lN a ||| lN b = lN (a ||| b) := by
  apply wb_inj
  rw [Int64.toBitVec_or, wb_tb, wb_tb, wb_tb]
  apply BitVec.eq_of_toNat_eq
  rw [BitVec.toNat_or, BitVec.toNat_ofNat, BitVec.toNat_ofNat, BitVec.toNat_ofNat, Nat.mod_eq_of_lt ha, Nat.mod_eq_of_lt hb, Nat.mod_eq_of_lt (Nat.or_lt_two_pow ha hb)]
theorem wb_mask {n k : Nat} (hn : n < 2 ^ 64) (hk : k < 64) : lN n &&& lN (2 ^ k - 1) = lN (n % 2 ^ k) := by
  rw [wb_and hn (by have := wb_lt2 hk; omega), Nat.and_two_pow_sub_one_eq_mod]
theorem pf_lI {a : Nat} (h : a < 2 ^ 63) : (lN a).toInt = (a : Int) := lg_ofNat_toInt h
theorem pf_shr {a d : Nat} {D : Int64} (hD : (D.toBitVec.smod 64).toNat = d) (h : a < 2 ^ 62) : lN a >>> D = lN (a / 2 ^ d) := by
  have hd : a / 2 ^ d ≤ a := Nat.div_le_self _ _
  apply Int64.toInt_inj.mp
  have e : (lN a >>> D).toInt = (lN a).toInt >>> d := by
    rw [← hD]
    exact BitVec.toInt_sshiftRight ..
  rw [e, Int.shiftRight_eq_div_pow, pf_lI (by omega), pf_lI (by omega)]
  rfl
section WO
def fg (B o a : Nat) (w : List Nat) : Nat := w.foldl (fun a d => a * B + (o + d)) a
theorem fg_nil {B o a : Nat} : fg B o a [] = a := rfl
theorem fg_cons {B o a d : Nat} {w : List Nat} : fg B o a (d :: w) = fg B o (a * B + (o + d)) w := rfl
theorem fg_app {B o a d : Nat} {w : List Nat} : fg B o a (w ++ [d]) = fg B o a w * B + (o + d) := by
  unfold fg
  rw [List.foldl_append]; rfl
theorem fg_lo {B o : Nat} : ∀ (w : List Nat) (a : Nat), a * B ^ w.length ≤ fg B o a w := by
  intro w
  induction w with
  | nil => intro a; simp [fg]
  | cons d w ih =>
    intro a
    rw [fg_cons, List.length_cons, Nat.pow_succ]
    refine Nat.le_trans ?_ (ih _)
    rw [Nat.mul_comm (B ^ w.length) B, ← Nat.mul_assoc]
    exact Nat.mul_le_mul_right _ (Nat.le_add_right _ _)
theorem fg_hi {B o : Nat} : ∀ (w : List Nat) (a : Nat), (∀ d ∈ w, o + d < B) → fg B o a w < (a + 1) * B ^ w.length := by
  intro w
  induction w with
  | nil => intro a _; simp [fg]
  | cons d w ih =>
    intro a h
    rw [fg_cons, List.length_cons, Nat.pow_succ, Nat.mul_comm (B ^ w.length) B, ← Nat.mul_assoc]
    refine Nat.lt_of_lt_of_le (ih _ (fun e he => h e (List.mem_cons_of_mem _ he))) (Nat.mul_le_mul_right _ ?_)
    have := h d (List.mem_cons_self ..)
    rw [Nat.add_mul]
    omega
theorem fg_inj0 {B o : Nat} : ∀ (w w' : List Nat) (a a' : Nat), w.length = w'.length → (∀ d ∈ w, o + d < B) → (∀ d ∈ w', o + d < B) → fg B o a w = fg B o a' w' → a = a' ∧ w = w' := by
  intro w
  induction w with
  | nil =>
    intro w' a a' hl _ _ h
    cases w' with
    | nil => exact ⟨h, rfl⟩
    | cons _ _ => simp at hl
  | cons d w ih =>
    intro w' a a' hl h1 h2 h
    cases w' with
    | nil => simp at hl
    | cons d' w' =>
      rw [fg_cons, fg_cons] at h
      obtain ⟨e1, e2⟩ := ih w' _ _ (by simpa using hl) (fun e he => h1 e (List.mem_cons_of_mem _ he)) (fun e he => h2 e (List.mem_cons_of_mem _ he)) h
      have b1 := h1 d (List.mem_cons_self ..)
      have b2 := h2 d' (List.mem_cons_self ..)
      have m1 := congrArg (· % B) e1
      simp only [Nat.add_comm (_ * B), Nat.add_mul_mod_self_right, Nat.mod_eq_of_lt b1, Nat.mod_eq_of_lt b2] at m1
      have : d = d' := by omega
      subst this
      have e3 : a * B = a' * B := by omega
      have : a = a' := Nat.eq_of_mul_eq_mul_right (by omega) e3
      exact ⟨this, by rw [e2]⟩
theorem fg_len {B o : Nat} {w w' : List Nat} (hB : 0 < B) (h1 : ∀ d ∈ w, 1 ≤ o + d) (h2 : ∀ d ∈ w', o + d < B) (h : fg B o 0 w = fg B o 0 w') : w.length ≤ w'.length := by
  rcases Nat.lt_or_ge w'.length w.length with c | c
  · exfalso
    cases w with
    | nil => simp at c
    | cons d w =>
      have a1 := h1 d (List.mem_cons_self ..)
      have a2 := fg_lo (B := B) (o := o) w (0 * B + (o + d))
      rw [fg_cons] at h
      have a3 := fg_hi w' 0 h2
      have a4 : B ^ w'.length ≤ B ^ w.length := Nat.pow_le_pow_right hB (by simpa using Nat.le_of_lt_succ c)
      have a5 : 1 * B ^ w.length ≤ (0 * B + (o + d)) * B ^ w.length := Nat.mul_le_mul_right _ (by omega)
      omega
  · exact c
theorem fg_inj {B o : Nat} {w w' : List Nat} (hB : 0 < B) (h1 : ∀ d ∈ w, 1 ≤ o + d ∧ o + d < B) (h2 : ∀ d ∈ w', 1 ≤ o + d ∧ o + d < B) (h : fg B o 0 w = fg B o 0 w') : w = w' :=
  (fg_inj0 w w' 0 0 (Nat.le_antisymm (fg_len hB (fun d hd => (h1 d hd).1) (fun d hd => (h2 d hd).2) h) (fg_len hB (fun d hd => (h2 d hd).1) (fun d hd => (h1 d hd).2) h.symm)) (fun d hd => (h1 d hd).2) (fun d hd => (h2 d hd).2) h).2
theorem c5_fg (w : List Nat) : c5 w = lN (fg 32 0 0 w) := by
  unfold c5 fg
  simp only [Nat.zero_add]
theorem c8_fg (w : List Nat) : c8 w = lN (fg 256 96 0 w) := rfl
theorem fg_lt {B o n : Nat} {w : List Nat} (hB : 0 < B) (hn : w.length ≤ n) (h : ∀ d ∈ w, o + d < B) : fg B o 0 w < B ^ n := by
  have := fg_hi w 0 h
  have a4 : B ^ w.length ≤ B ^ n := Nat.pow_le_pow_right hB hn
  omega
theorem c5_inj {w w' : List Nat} (h1 : isWd w) (h2 : isWd w') (h : c5 w = c5 w') : w = w' := by
  rw [c5_fg, c5_fg] at h
  have b1 := fg_lt (B := 32) (o := 0) (by decide) h1.2.1 (fun d hd => by have := h1.2.2 d hd; omega)
  have b2 := fg_lt (B := 32) (o := 0) (by decide) h2.2.1 (fun d hd => by have := h2.2.2 d hd; omega)
  refine fg_inj (B := 32) (o := 0) (by decide) (fun d hd => by have := h1.2.2 d hd; omega) (fun d hd => by have := h2.2.2 d hd; omega) ((pk_lEQ ?_ ?_).mp h)
  · exact Nat.lt_trans b1 (by decide)
  · exact Nat.lt_trans b2 (by decide)
theorem c8_inj {w w' : List Nat} (h1 : isWd w) (h2 : isWd w') (h : c8 w = c8 w') : w = w' := by
  rw [c8_fg, c8_fg] at h
  have b1 := fg_lt (B := 256) (o := 96) (by decide) h1.2.1 (fun d hd => by have := h1.2.2 d hd; omega)
  have b2 := fg_lt (B := 256) (o := 96) (by decide) h2.2.1 (fun d hd => by have := h2.2.2 d hd; omega)
  refine fg_inj (B := 256) (o := 96) (by decide) (fun d hd => by have := h1.2.2 d hd; omega) (fun d hd => by have := h2.2.2 d hd; omega) ((pk_lEQ ?_ ?_).mp h)
  · exact Nat.lt_trans b1 (by decide)
  · exact Nat.lt_trans b2 (by decide)
theorem c5_iff {w w' : List Nat} (h1 : isWd w) (h2 : isWd w') : c5 w = c5 w' ↔ w = w' := ⟨c5_inj h1 h2, fun e => by rw [e]⟩
theorem c8_iff {w w' : List Nat} (h1 : isWd w) (h2 : isWd w') : c8 w = c8 w' ↔ w = w' := ⟨c8_inj h1 h2, fun e => by rw [e]⟩
/-- of names told in both: the same in the one, the same in the other -/
theorem wr_iff {x y x' y' : Int64} (h : wr x y) (h' : wr x' y') : x = x' ↔ y = y' := by
  obtain ⟨w, h1, rfl, rfl⟩ := h
  obtain ⟨w', h2, rfl, rfl⟩ := h'
  rw [c5_iff h1 h2, c8_iff h1 h2]
theorem lg_eq {x y : Int64} : lg_cmp x y = 0 ↔ x = y := ⟨fun h => Classical.byContradiction (fun c => lg_ne.mpr c h), fun h => Classical.byContradiction (fun c => lg_ne.mp c h)⟩
/-- the words that are no names -/
theorem kw_wd : ∀ k, k < 32 → isWd (kwds.getD k []) := by
  have : ∀ k, k < 32 → 1 ≤ (kwds.getD k []).length ∧ (kwds.getD k []).length ≤ 7 ∧ ∀ d ∈ kwds.getD k [], 1 ≤ d ∧ d ≤ 26 := by decide +kernel
  exact this
theorem kw_ne : ∀ k, k < 32 → ∀ j, j < 32 → kwds.getD k [] = kwds.getD j [] → k = j := by decide +kernel
theorem kord_lt : ∀ k, k < 32 → kord.getD k 0 < 32 := by decide +kernel
theorem kord_on : ∀ k, k < 32 → ∃ j, j < 32 ∧ kord.getD j 0 = k := by decide +kernel
/-- which of them a word is -/
def kx (w : List Nat) : Int32 := lo (fun k a => if kwds.getD k [] = w then nI k else a) 32 (-1)
theorem kx_lo (w : List Nat) : ∀ n, n ≤ 32 → ((∀ k, k < n → ¬ kwds.getD k [] = w) ∧ lo (fun k a => if kwds.getD k [] = w then nI k else a) n (-1) = -1) ∨ ∃ k, k < n ∧ kwds.getD k [] = w ∧ lo (fun k a => if kwds.getD k [] = w then nI k else a) n (-1) = nI k := by
  intro n
  induction n with
  | zero => intro _; exact Or.inl ⟨fun k hk => absurd hk (Nat.not_lt_zero _), rfl⟩
  | succ n ih =>
    intro hn
    rw [lo]
    by_cases c : kwds.getD n [] = w
    · rw [if_pos c]
      exact Or.inr ⟨n, by omega, c, rfl⟩
    · rw [if_neg c]
      rcases ih (by omega) with ⟨h1, h2⟩ | ⟨k, h1, h2, h3⟩
      · refine Or.inl ⟨fun k hk => ?_, h2⟩
        by_cases e : k = n
        · subst e; exact c
        · exact h1 k (by omega)
      · exact Or.inr ⟨k, by omega, h2, h3⟩
theorem kx_iff {w : List Nat} {k : Nat} (hk : k < 32) : kx w = nI k ↔ w = kwds.getD k [] := by
  rcases kx_lo w 32 (Nat.le_refl _) with ⟨h1, h2⟩ | ⟨j, h1, h2, h3⟩
  · constructor
    · intro e
      rw [show kx w = -1 from h2] at e
      exact absurd e.symm (nI_m1 (by omega))
    · exact fun e => absurd e.symm (h1 k hk)
  · rw [show kx w = nI j from h3, nI_eq (by omega) (by omega), ← h2]
    exact ⟨fun e => by rw [e], fun e => kw_ne j h1 k hk e⟩
theorem kx_m1 {w : List Nat} : kx w = -1 ↔ ∀ k, k < 32 → ¬ w = kwds.getD k [] := by
  rcases kx_lo w 32 (Nat.le_refl _) with ⟨h1, h2⟩ | ⟨j, h1, h2, h3⟩
  · exact ⟨fun _ k hk e => h1 k hk e.symm, fun _ => h2⟩
  · rw [show kx w = nI j from h3]
    exact ⟨fun e => absurd e (nI_m1 (by omega)), fun e => absurd h2.symm (e j h1)⟩
theorem kx_01 (w : List Nat) : kx w = -1 ∨ ∃ k, k < 32 ∧ kx w = nI k := by
  rcases kx_lo w 32 (Nat.le_refl _) with ⟨h1, h2⟩ | ⟨j, h1, h2, h3⟩
  · exact Or.inl h2
  · exact Or.inr ⟨j, h1, h3⟩
theorem key_kx {K : Nat → Int64} {w : List Nat} (hK : ∀ k, k < 32 → K k = c5 (kwds.getD k [])) (hw : isWd w) : lo (fun k a => if K k = c5 w then nI k else a) 32 (-1) = kx w := by
  refine lo_congr 32 (fun k x hk => ?_)
  refine if_iff ?_
  rw [hK k hk, c5_iff (kw_wd k hk) hw]
end WO
