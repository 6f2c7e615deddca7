/-! tag: the bytes of a word out of its two codes -/
section TG
variable {X Y : X_}
noncomputable def fX9_addT : List Nat → RM Unit
  | [] => re ()
  | b :: l => ca (fX9_addByte (nI b)) fun _ => fX9_addT l
def cP : X_ → Nat → List Nat → X_
  | X, _, [] => X
  | X, n, b :: l => cP (sI (sI X 149 n (nI b)) 148 1 (nI (n + 1))) (n + 1) l
def yP : X_ → Nat → List Nat → X_
  | Y, _, [] => Y
  | Y, n, b :: l => yP (sI (sI Y 232 n (nI b)) 218 36 (nI (n + 1))) (n + 1) l
theorem cP_app : ∀ (l l' : List Nat) (X : X_) (n : Nat), cP X n (l ++ l') = cP (cP X n l) (n + l.length) l' := by
  intro l
  induction l with
  | nil => intro l' X n; rfl
  | cons b l ih =>
    intro l' X n
    rw [List.length_cons, show n + (l.length + 1) = n + 1 + l.length by omega]
    exact ih l' _ (n + 1)
theorem yP_app : ∀ (l l' : List Nat) (X : X_) (n : Nat), yP X n (l ++ l') = yP (yP X n l) (n + l.length) l' := by
  intro l
  induction l with
  | nil => intro l' X n; rfl
  | cons b l ih =>
    intro l' X n
    rw [List.length_cons, show n + (l.length + 1) = n + 1 + l.length by omega]
    exact ih l' _ (n + 1)
theorem cP_row : ∀ (l : List Nat) (X : X_) (n : Nat) {a : Nat}, ¬ a = 148 → ¬ a = 149 → (cP X n l).1 a = X.1 a := by
  intro l
  induction l with
  | nil => intro X n a _ _; rfl
  | cons b l ih =>
    intro X n a h1 h2
    exact (ih _ (n + 1) h1 h2).trans (by rw [sI_row h1, sI_row h2])
theorem yP_row : ∀ (l : List Nat) (X : X_) (n : Nat) {a : Nat}, ¬ a = 218 → ¬ a = 232 → (yP X n l).1 a = X.1 a := by
  intro l
  induction l with
  | nil => intro X n a _ _; rfl
  | cons b l ih =>
    intro X n a h1 h2
    exact (ih _ (n + 1) h1 h2).trans (by rw [sI_row h1, sI_row h2])
theorem yP_fd : ∀ (l : List Nat) (X : X_) (n : Nat) {k : Nat}, ¬ k = 36 → (yP X n l).1 218 k = X.1 218 k := by
  intro l
  induction l with
  | nil => intro X n k _; rfl
  | cons b l ih =>
    intro X n k h1
    exact (ih _ (n + 1) h1).trans (by rw [sI_ne (by omega), sI_row (by decide)])
theorem cP_2 : ∀ (l : List Nat) (X : X_) (n : Nat), (cP X n l).2 = X.2 := by
  intro l
  induction l with
  | nil => intro X n; rfl
  | cons b l ih => intro X n; exact ih _ (n + 1)
theorem yP_2 : ∀ (l : List Nat) (X : X_) (n : Nat), (yP X n l).2 = X.2 := by
  intro l
  induction l with
  | nil => intro X n; rfl
  | cons b l ih => intro X n; exact ih _ (n + 1)
theorem cP_n : ∀ (l : List Nat) (X : X_) (n : Nat), X.1 148 1 = nI n → (cP X n l).1 148 1 = nI (n + l.length) := by
  intro l
  induction l with
  | nil => intro X n h; exact h
  | cons b l ih =>
    intro X n h
    rw [List.length_cons, show n + (l.length + 1) = n + 1 + l.length by omega]
    exact ih _ (n + 1) sI_eq
theorem yP_n : ∀ (l : List Nat) (X : X_) (n : Nat), X.1 218 36 = nI n → (yP X n l).1 218 36 = nI (n + l.length) := by
  intro l
  induction l with
  | nil => intro X n h; exact h
  | cons b l ih =>
    intro X n h
    rw [List.length_cons, show n + (l.length + 1) = n + 1 + l.length by omega]
    exact ih _ (n + 1) sI_eq
theorem cP_yP : ∀ (l : List Nat) (X Y : X_) (n : Nat), (∀ i, i < n → X.1 149 i = Y.1 232 i) → ∀ i, i < n + l.length → (cP X n l).1 149 i = (yP Y n l).1 232 i := by
  intro l
  induction l with
  | nil => intro X Y n h i hi; exact h i hi
  | cons b l ih =>
    intro X Y n h i hi
    rw [List.length_cons] at hi
    refine ih _ _ (n + 1) (fun i hi => ?_) i (by omega)
    rw [sI_row (show ¬ (149 : Nat) = 148 by decide), sI_row (show ¬ (232 : Nat) = 218 by decide)]
    by_cases e : i = n
    · subst e; rw [sI_eq, sI_eq]
    · rw [sI_ne (by omega), sI_ne (by omega)]; exact h i (by omega)
theorem addB {n b : Nat} (h : X.1 148 1 = nI n) (hn : n < 26) : fX9_addByte (nI b) X = some ((), sI (sI X 149 n (nI b)) 148 1 (nI (n + 1))) := by
  unfold fX9_addByte
  rw [gI_e, h, it_f (fun z => absurd ((nI_leI (by decide) (by omega)).mp z) (by omega)), gI_e, h, wA_n hn (by decide), gI_e, sI_row (by decide), h, pI_e, nI_1]; rfl
theorem b8_ : ∀ b, b < 128 → ((nI b).toInt8.toInt32).toInt8.toInt32 = nI b := by decide +kernel
theorem laysB {n b : Nat} (h : Y.1 218 36 = nI n) (hn : n < 40) (hb : b < 128) : fX12_lays (nI b) Y = some ((), sI (sI Y 232 n (nI b)) 218 36 (nI (n + 1))) := by
  unfold fX12_lays
  rw [gI_e, h, b8_ b hb, wA_n hn (by decide), gI_e, sI_row (by decide), h, pI_e, nI_1]; rfl
theorem addT_e : ∀ (l : List Nat) (X : X_) (n : Nat), X.1 148 1 = nI n → n + l.length ≤ 26 → fX9_addT l X = some ((), cP X n l) := by
  intro l
  induction l with
  | nil => intro X n _ _; rfl
  | cons b l ih =>
    intro X n h hn
    rw [List.length_cons] at hn
    unfold fX9_addT
    rw [ca_s (addB h (by omega))]
    exact ih _ (n + 1) sI_eq (by omega)
/-- the digits, the highest first, but for the noughts -/
def dt (B a : Nat) : Nat → List Nat
  | 0 => []
  | k + 1 => if a / B ^ k % B = 0 then dt B a k else (a / B ^ k % B) :: dt B a k
theorem dt_s {B a : Nat} : ∀ k, dt B a (k + 1) = dt B (a / B) k ++ (if a % B = 0 then [] else [a % B]) := by
  intro k
  induction k with
  | zero =>
    show (if a / B ^ 0 % B = 0 then [] else [a / B ^ 0 % B]) = [] ++ _
    rw [Nat.pow_zero, Nat.div_one, List.nil_append]
  | succ k ih =>
    show (if a / B ^ (k + 1) % B = 0 then dt B a (k + 1) else (a / B ^ (k + 1) % B) :: dt B a (k + 1)) = (if a / B / B ^ k % B = 0 then dt B (a / B) k else (a / B / B ^ k % B) :: dt B (a / B) k) ++ _
    rw [ih, Nat.pow_succ', ← Nat.div_div_eq_div_mul]
    by_cases c : a / B / B ^ k % B = 0
    · rw [if_pos c, if_pos c]
    · rw [if_neg c, if_neg c, List.cons_append]
theorem dt_0 {B : Nat} : ∀ k, dt B 0 k = [] := by
  intro k
  induction k with
  | zero => rfl
  | succ k ih =>
    show (if 0 / B ^ k % B = 0 then dt B 0 k else (0 / B ^ k % B) :: dt B 0 k) = []
    rw [Nat.zero_div, Nat.zero_mod, if_pos rfl, ih]
theorem dt_fg {B o : Nat} (hB : 0 < B) : ∀ (k : Nat) (w : List Nat), w.length ≤ k → (∀ d ∈ w, 1 ≤ o + d ∧ o + d < B) → dt B (fg B o 0 w) k = w.map (fun d => o + d) := by
  intro k
  induction k with
  | zero =>
    intro w hl _
    cases w with
    | nil => rfl
    | cons d w => simp at hl
  | succ k ih =>
    intro w hl hd
    rcases List.eq_nil_or_concat w with rfl | ⟨w', d, rfl⟩
    · exact dt_0 (k + 1)
    · rw [List.concat_eq_append] at hl hd ⊢
      rw [List.length_append] at hl
      have h1 := hd d (List.mem_append_right _ (List.mem_cons_self ..))
      have hl' : w'.length ≤ k := by simp at hl; omega
      rw [dt_s, fg_app, Nat.add_comm (fg B o 0 w' * B), Nat.add_mul_div_right _ _ hB, Nat.div_eq_of_lt h1.2, Nat.zero_add, Nat.add_mul_mod_self_right, Nat.mod_eq_of_lt h1.2, if_neg (by omega), ih w' hl' (fun e he => hd e (List.mem_append_left _ he)), List.map_append]
      rfl
theorem lw_32 : ∀ m, m < 256 → (lN m).toInt32 = nI m := by decide +kernel
theorem lw_0 : ∀ m, m < 256 → (lg_cmp (lN m) 0 = 0 ↔ m = 0) := by decide +kernel
theorem lw_sm {q : Nat} (hq : q < 64) : ((lN q).toBitVec.smod 64).toNat = q := by rw [wb_tb, wb_sm q hq, BitVec.toNat_ofNat, Nat.mod_eq_of_lt (by omega)]
theorem dg5 {a k : Nat} (ha : a < 2 ^ 62) (hk : 5 * k < 64) : (lN a >>> ((nI (5 * k)).toInt64 &&& 63)) &&& 31 = lN (a / 32 ^ k % 32) := by
  rw [wb_c _ hk, pf_shr (lw_sm hk) ha, show (31 : Int64) = lN (2 ^ 5 - 1) from rfl, wb_mask (Nat.lt_of_le_of_lt (Nat.div_le_self _ _) (Nat.lt_trans ha (by decide))) (by decide), Nat.pow_mul]
theorem dg8 {a k : Nat} (ha : a < 2 ^ 62) (hk : 8 * k < 64) : (lN a >>> ((nI (8 * k)).toInt64 &&& 63)) &&& 255 = lN (a / 256 ^ k % 256) := by
  rw [wb_c _ hk, pf_shr (lw_sm hk) ha, show (255 : Int64) = lN (2 ^ 8 - 1) from rfl, wb_mask (Nat.lt_of_le_of_lt (Nat.div_le_self _ _) (Nat.lt_trans ha (by decide))) (by decide), Nat.pow_mul]
def sh5 (k : Nat) : Int32 := if k = 0 then -5 else nI (5 * (k - 1))
def sh8 (k : Nat) : Int32 := if k = 0 then -8 else nI (8 * (k - 1))
theorem sh5_s : ∀ k, k < 9 → nI (5 * k) + (-5) = sh5 k := by decide +kernel
theorem sh8_s : ∀ k, k < 9 → nI (8 * k) + (-8) = sh8 k := by decide +kernel
noncomputable def bdN (a1 : Int64) (L3 : Int32 → RM Unit) (x1 : Int32) : RM Unit := (it (x1 < 0) (re ()) (it ((((a1 >>> ((x1 : Int32).toInt64 &&& 63)) &&& 31).toInt32) = 0) (L3 (x1 + (-5))) (ca (fX9_addByte ((97 + (((a1 >>> ((x1 : Int32).toInt64 &&& 63)) &&& 31).toInt32)) - 1)) fun _ => (L3 (x1 + (-5))))))
def bdS (a1 : Int64) (L3 : Int32 → RM Unit) (x1 : Int32) : RM Unit := (it (x1 < 0) (re ()) (it ((lg_cmp ((a1 >>> ((x1 : Int32).toInt64 &&& 63)) &&& 255) 0) = 0) (L3 (x1 + (-8))) (ca (fX12_lays (((a1 >>> ((x1 : Int32).toInt64 &&& 63)) &&& 255).toInt32)) fun _ => (L3 (x1 + (-8))))))
theorem addN_lp {a : Nat} (ha : a < 2 ^ 62) : ∀ (k f : Nat) (X : X_) (n : Nat), k ≤ 7 → k < f → X.1 148 1 = nI n → n + (dt 32 a k).length ≤ 26 → lz1 (bdN (lN a)) f (sh5 k) X = some ((), cP X n ((dt 32 a k).map (fun d => 96 + d))) := by
  intro k
  induction k with
  | zero =>
    intro f X n _ hf h hn
    obtain ⟨f, rfl⟩ : ∃ g, f = g + 1 := ⟨f - 1, by omega⟩
    rw [lz1_s]
    unfold bdN
    rw [it_t (by decide)]; rfl
  | succ k ih =>
    intro f X n hk hf h hn
    obtain ⟨f, rfl⟩ : ∃ g, f = g + 1 := ⟨f - 1, by omega⟩
    have e : sh5 (k + 1) = nI (5 * k) := if_neg (by omega)
    have d32 : a / 32 ^ k % 32 < 32 := Nat.mod_lt _ (by decide)
    have dd : dt 32 a (k + 1) = if a / 32 ^ k % 32 = 0 then dt 32 a k else (a / 32 ^ k % 32) :: dt 32 a k := rfl
    rw [lz1_s, e]
    unfold bdN
    rw [it_f (show ¬ nI (5 * k) < 0 from fun z => absurd ((nI_ltI (b := 0) (by omega) (by decide)).mp z) (by omega)), dg5 ha (by omega), lw_32 _ (by omega), sh5_s k (by omega)]
    rw [dd] at hn ⊢
    by_cases c : a / 32 ^ k % 32 = 0
    · rw [if_pos c] at hn ⊢
      rw [c, it_t (show nI 0 = 0 from rfl)]
      exact ih f X n (by omega) (by omega) h hn
    · rw [if_neg c] at hn ⊢
      rw [List.length_cons] at hn
      rw [it_f (nI_n0 (by omega) (by omega)), ix_la, show nI (97 + a / 32 ^ k % 32) - 1 = nI (96 + a / 32 ^ k % 32) by rw [show nI (97 + a / 32 ^ k % 32) - 1 = nI (97 + a / 32 ^ k % 32 - 1) from ix_sub (c := 1) (by omega)]; congr 1; omega, ca_s (addB h (by omega))]
      exact ih f _ (n + 1) (by omega) (by omega) sI_eq (by omega)
theorem spells_lp {a : Nat} (ha : a < 2 ^ 62) : ∀ (k f : Nat) (Y : X_) (n : Nat), k ≤ 8 → k < f → Y.1 218 36 = nI n → n + (dt 256 a k).length ≤ 40 → (∀ d ∈ dt 256 a k, d < 128) → lz1 (bdS (lN a)) f (sh8 k) Y = some ((), yP Y n (dt 256 a k)) := by
  intro k
  induction k with
  | zero =>
    intro f X n _ hf h hn _
    obtain ⟨f, rfl⟩ : ∃ g, f = g + 1 := ⟨f - 1, by omega⟩
    rw [lz1_s]
    unfold bdS
    rw [it_t (by decide)]; rfl
  | succ k ih =>
    intro f X n hk hf h hn hb
    obtain ⟨f, rfl⟩ : ∃ g, f = g + 1 := ⟨f - 1, by omega⟩
    have e : sh8 (k + 1) = nI (8 * k) := if_neg (by omega)
    have d32 : a / 256 ^ k % 256 < 256 := Nat.mod_lt _ (by decide)
    have dd : dt 256 a (k + 1) = if a / 256 ^ k % 256 = 0 then dt 256 a k else (a / 256 ^ k % 256) :: dt 256 a k := rfl
    rw [lz1_s, e]
    unfold bdS
    rw [it_f (show ¬ nI (8 * k) < 0 from fun z => absurd ((nI_ltI (b := 0) (by omega) (by decide)).mp z) (by omega)), dg8 ha (by omega), lw_32 _ d32, sh8_s k (by omega)]
    rw [dd] at hn hb ⊢
    by_cases c : a / 256 ^ k % 256 = 0
    · rw [if_pos c] at hn hb ⊢
      rw [it_t ((lw_0 _ d32).mpr c)]
      exact ih f X n (by omega) (by omega) h hn hb
    · rw [if_neg c] at hn hb ⊢
      rw [List.length_cons] at hn
      rw [it_f (fun z => c ((lw_0 _ d32).mp z)), ca_s (laysB h (by omega) (hb _ (List.mem_cons_self ..)))]
      exact ih f _ (n + 1) (by omega) (by omega) sI_eq (by omega) (fun d hd => hb d (List.mem_cons_of_mem _ hd))
theorem addName_e {w : List Nat} {n : Nat} (hw : isWd w) (h : X.1 148 1 = nI n) (hn : n + w.length ≤ 26) : fX9_addName (c5 w) X = some ((), cP X n (w.map (fun d => 96 + d))) := by
  obtain ⟨-, w7, wd⟩ := hw
  have e : dt 32 (fg 32 0 0 w) 7 = w := by
    rw [dt_fg (by decide) 7 w w7 (fun d hd => by have := wd d hd; omega)]
    simp
  have lt : fg 32 0 0 w < 2 ^ 62 := Nat.lt_trans (fg_lt (n := 7) (by decide) w7 (fun d hd => by have := wd d hd; omega)) (by decide)
  have := addN_lp lt 7 FU X n (by decide) (by rw [FU_eq]; omega) h (by rw [e]; exact hn)
  rw [e] at this
  rw [c5_fg]
  exact this
theorem spells_e {w : List Nat} {n : Nat} (hw : isWd w) (h : Y.1 218 36 = nI n) (hn : n + w.length ≤ 40) : fX12_spells (c8 w) Y = some ((), yP Y n (w.map (fun d => 96 + d))) := by
  obtain ⟨-, w7, wd⟩ := hw
  have e : dt 256 (fg 256 96 0 w) 8 = w.map (fun d => 96 + d) := dt_fg (by decide) 8 w (by omega) (fun d hd => by have := wd d hd; omega)
  have lt : fg 256 96 0 w < 2 ^ 62 := Nat.lt_trans (fg_lt (n := 7) (by decide) w7 (fun d hd => by have := wd d hd; omega)) (by decide)
  have := spells_lp lt 8 FU Y n (by decide) (by rw [FU_eq]; omega) h (by rw [e, List.length_map]; exact hn) (fun d hd => by
    rw [e] at hd
    obtain ⟨x, hx, rfl⟩ := List.mem_map.mp hd
    have := wd x hx
    omega)
  rw [e] at this
  rw [c8_fg]
  exact this
theorem says_e {w : List Nat} {n : Nat} (hw : isWd w) (h : Y.1 218 36 = nI n) (hn : n + 1 + w.length ≤ 40) : fX12_says (c8 w) Y = some ((), yP Y n (32 :: w.map (fun d => 96 + d))) := by
  unfold fX12_says
  rw [ca_s (show fX12_lays 32 Y = _ from laysB (b := 32) h (by omega) (by decide)), ca_s (spells_e (n := n + 1) hw sI_eq hn)]; rfl
end TG
