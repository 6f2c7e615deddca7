theorem nI_lit (n : Nat) : (OfNat.ofNat n : Int32) = nI n := rfl
theorem i32_le {x y : Int32} : x ≤ y ↔ x.toInt ≤ y.toInt := Int32.le_iff_toInt_le
theorem i32_lt {x y : Int32} : x < y ↔ x.toInt < y.toInt := Int32.lt_iff_toInt_lt
/-- bits of the numbers below n of which P holds -/
def bo (P : Nat → Bool) : Nat → Int32
  | 0 => 0
  | n + 1 => if P n then bo P n ||| (1 <<< (nI n &&& 31)) else bo P n
/-- the first number from i on, among m, of which P holds; -1: none -/
def ff (P : Nat → Bool) : Nat → Nat → Int32
  | _, 0 => -1
  | i, m + 1 => if P i then nI i else ff P (i + 1) m
theorem ff_step {P : Nat → Bool} {i n : Nat} (h : i < n) : ff P i (n - i) = if P i then nI i else ff P (i + 1) (n - (i + 1)) := by
  rw [show n - i = (n - (i + 1)) + 1 by omega, ff]
/-- whether P holds of one below n, of all below n -/
def an (P : Nat → Bool) : Nat → Bool
  | 0 => false
  | n + 1 => an P n || P n
def al (P : Nat → Bool) : Nat → Bool
  | 0 => true
  | n + 1 => al P n && P n
/-- one after the other -/
def lo {α : Type} (f : Nat → α → α) : Nat → α → α
  | 0, x => x
  | n + 1, x => f n (lo f n x)
def b2 (b : Bool) : Int32 := if b then 1 else 0
abbrev m_V : Type := Nat → Nat → Int32
abbrev m_L : Type := Nat → Nat → Int64
def u2 (V : m_V) (j k : Nat) (x : Int32) : m_V := fun j' k' => if j' = j ∧ k' = k then x else V j' k'
def u2l (V : m_L) (j k : Nat) (x : Int64) : m_L := fun j' k' => if j' = j ∧ k' = k then x else V j' k'
/-- n cells from b on hold V (ints), L (longs) -/
def blI (h : m_H) (b n : Nat) (V : m_V) : Prop := ∀ j k, j < n → h.1 (b + j) k = V j k
def blJ (h : m_H) (b n : Nat) (L : m_L) : Prop := ∀ j k, j < n → h.2.1 (b + j) k = L j k
def m_bk (h : m_H) (b n : Nat) (V : m_V) (L : m_L) : m_H := (fun a k => if b ≤ a ∧ a < b + n then V (a - b) k else h.1 a k, fun a k => if b ≤ a ∧ a < b + n then L (a - b) k else h.2.1 a k, h.2.2)
section BK
variable {h : m_H} {b n p m j k : Nat} {V P : m_V} {L N : m_L}
theorem bk_sh : (m_bk h b n V L).2.2 = h.2.2 := rfl
theorem bk_i (hj : j < n) : (m_bk h b n V L).1 (b + j) k = V j k := by
  have : b ≤ b + j ∧ b + j < b + n := by omega
  simp [m_bk, this]
theorem bk_l (hj : j < n) : (m_bk h b n V L).2.1 (b + j) k = L j k := by
  have : b ≤ b + j ∧ b + j < b + n := by omega
  simp [m_bk, this]
theorem bk_I : blI (m_bk h b n V L) b n V := fun _ _ hj => bk_i hj
theorem bk_J : blJ (m_bk h b n V L) b n L := fun _ _ hj => bk_l hj
theorem bk_O (hP : blI h p m P) (ho : p + m ≤ b ∨ b + n ≤ p) : blI (m_bk h b n V L) p m P := fun j k hj => by
  have : ¬ (b ≤ p + j ∧ p + j < b + n) := by omega
  simp only [m_bk, this, if_false]
  exact hP j k hj
theorem bk_OJ (hP : blJ h p m N) (ho : p + m ≤ b ∨ b + n ≤ p) : blJ (m_bk h b n V L) p m N := fun j k hj => by
  have : ¬ (b ≤ p + j ∧ p + j < b + n) := by omega
  simp only [m_bk, this, if_false]
  exact hP j k hj
theorem bk_o (hP : blI h p m P) (ho : p + m ≤ b ∨ b + n ≤ p) (hj : j < m) : (m_bk h b n V L).1 (p + j) k = P j k := bk_O hP ho j k hj
theorem bk_oJ (hP : blJ h p m N) (ho : p + m ≤ b ∨ b + n ≤ p) (hj : j < m) : (m_bk h b n V L).2.1 (p + j) k = N j k := bk_OJ hP ho j k hj
theorem bk_self (hV : blI h b n V) (hL : blJ h b n L) : h = m_bk h b n V L := by
  refine Prod.ext (funext fun a => funext fun k => ?_) (Prod.ext (funext fun a => funext fun k => ?_) rfl)
  · by_cases c : b ≤ a ∧ a < b + n
    · simp only [m_bk, c, and_self, if_true]
      have := hV (a - b) k (by omega)
      rwa [show b + (a - b) = a by omega] at this
    · simp only [m_bk, c, if_false]
  · by_cases c : b ≤ a ∧ a < b + n
    · simp only [m_bk, c, and_self, if_true]
      have := hL (a - b) k (by omega)
      rwa [show b + (a - b) = a by omega] at this
    · simp only [m_bk, c, if_false]
theorem bk_si {x : Int32} (hj : j < n) : m_si (m_bk h b n V L) (b + j) k x = m_bk h b n (u2 V j k x) L := by
  refine Prod.ext (funext fun a => funext fun k' => ?_) rfl
  simp only [m_si, m_bk, u2]
  by_cases c : b ≤ a ∧ a < b + n
  · by_cases e : a = b + j
    · subst e
      simp [c]
    · have : ¬ (a - b = j) := by omega
      simp [c, e, this]
  · have : ¬ a = b + j := by omega
    simp [c, this]
theorem bk_sj {x : Int64} (hj : j < n) : m_sj (m_bk h b n V L) (b + j) k x = m_bk h b n V (u2l L j k x) := by
  refine Prod.ext rfl (Prod.ext (funext fun a => funext fun k' => ?_) rfl)
  simp only [m_sj, m_bk, u2l]
  by_cases c : b ≤ a ∧ a < b + n
  · by_cases e : a = b + j
    · subst e
      simp [c]
    · have : ¬ (a - b = j) := by omega
      simp [c, e, this]
  · have : ¬ a = b + j := by omega
    simp [c, this]
theorem bk_bk {V' : m_V} {L' : m_L} : m_bk (m_bk h b n V L) b n V' L' = m_bk h b n V' L' := by
  refine Prod.ext (funext fun a => funext fun k' => ?_) (Prod.ext (funext fun a => funext fun k' => ?_) rfl)
  · simp only [m_bk]
    split <;> rfl
  · simp only [m_bk]
    split <;> rfl
end BK
theorem m_pick (G : m_G) (lv : List (Nat × Value)) (ks : List Nat) : lv_pick (m_lv G lv) ks = m_lv G (lv_pick lv ks) := by
  induction ks with
  | nil => rfl
  | cons k ks ih =>
    have e : ∀ l : List (Nat × Value), lv_pick l (k :: ks) = (match l[k]? with | some x => x :: lv_pick l ks | none => lv_pick l ks) := fun l => by
      simp only [lv_pick, List.filterMap_cons]
      cases l[k]? <;> rfl
    rw [e, e, ih]
    simp only [m_lv, List.getElem?_map]
    cases lv[k]? <;> rfl
/-- fewer locals, in another order -/
theorem mw_sub {K : m_K} {pc : Nat} {z : Nat × Nat} {lv lv' : List (Nat × Value)} {st : List Value} {h : m_H} {Q : Option Value → m_H → Prop} (ks : List Nat) (he : lv_pick lv ks = lv') (k : MW K pc z lv' st h Q) : MW K pc z lv st h Q :=
  fun p l e s m args below meth c G H locs ls n0 hC hI hS hl hz hn => k p l e s m args below meth c G H locs ls n0 hC hI hS (lv_sub hl ks (by rw [m_pick, he])) hz hn
