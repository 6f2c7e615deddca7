section MB
variable {h : m_H} {b n a k p m : Nat} {V V' : m_V} {L L' : m_L}
theorem bk_so {x : Int32} (ho : a < b ∨ b + n ≤ a) : m_si (m_bk h b n V L) a k x = m_bk (m_si h a k x) b n V L := by
  refine Prod.ext (funext fun c => funext fun k' => ?_) rfl
  simp only [m_si, m_bk]
  by_cases e : c = a
  · subst e
    have : ¬ (b ≤ c ∧ c < b + n) := by omega
    simp [this]
  · simp [e]
theorem bk_so2 {x : Int64} (ho : a < b ∨ b + n ≤ a) : m_sj (m_bk h b n V L) a k x = m_bk (m_sj h a k x) b n V L := by
  refine Prod.ext rfl (Prod.ext (funext fun c => funext fun k' => ?_) rfl)
  simp only [m_sj, m_bk]
  by_cases e : c = a
  · subst e
    have : ¬ (b ≤ c ∧ c < b + n) := by omega
    simp [this]
  · simp [e]
theorem bk_cm (ho : p + m ≤ b ∨ b + n ≤ p) : m_bk (m_bk h b n V L) p m V' L' = m_bk (m_bk h p m V' L') b n V L := by
  refine Prod.ext (funext fun c => funext fun k' => ?_) (Prod.ext (funext fun c => funext fun k' => ?_) rfl)
  · simp only [m_bk]
    by_cases e : p ≤ c ∧ c < p + m
    · have : ¬ (b ≤ c ∧ c < b + n) := by omega
      simp [e, this]
    · simp [e]
  · simp only [m_bk]
    by_cases e : p ≤ c ∧ c < p + m
    · have : ¬ (b ≤ c ∧ c < b + n) := by omega
      simp [e, this]
    · simp [e]
end MB
/-- the text: its ints and bytes, its longs -/
abbrev m_TX : Type := m_V × m_L
def t_blank (c : Int32) : Bool := decide (c = 32 ∨ c = 10)
def t_letter (c : Int32) : Bool := decide (97 ≤ c ∧ c ≤ 122)
def t_digit (c : Int32) : Bool := decide (48 ≤ c ∧ c ≤ 57)
/-- the first place from r on, among m, that isn't blank -/
def t_skip (b : Nat → Int32) : Nat → Nat → Nat
  | 0, r => r
  | m + 1, r => if t_blank (b r) then t_skip b m (r + 1) else r
/-- a run of letters and digits: the place behind it, how many letters, digits, the letters, the number -/
def t_run (b : Nat → Int32) : Nat → Nat → Int32 → Int32 → Int64 → Int32 → Nat × Int32 × Int32 × Int64 × Int32
  | 0, r, lc, dc, l, v => (r, lc, dc, l, v)
  | m + 1, r, lc, dc, l, v => if t_letter (b r) then t_run b m (r + 1) (lc + 1) dc (l * 32 + (b r - 97 + 1).toInt64) v else if t_digit (b r) then t_run b m (r + 1) lc (dc + 1) l (v * 10 + (b r - 48)) else (r, lc, dc, l, v)
def t_kind (lc dc : Int32) : Int32 := if dc = 0 ∧ lc ≤ 7 then 1 else if lc = 0 ∧ dc ≤ 3 then 2 else 4
def t_key (K : Nat → Int64) (l : Int64) : Int32 := lo (fun k a => if K k = l then nI k else a) 32 (-1)
theorem skip_le (b : Nat → Int32) : ∀ m r, r ≤ t_skip b m r ∧ t_skip b m r ≤ r + m := by
  intro m
  induction m with
  | zero => intro r; exact ⟨Nat.le_refl _, Nat.le_refl _⟩
  | succ m ih =>
    intro r
    unfold t_skip
    split
    · have := ih (r + 1); omega
    · omega
theorem run_le (b : Nat → Int32) : ∀ m r lc dc l v, r ≤ (t_run b m r lc dc l v).1 ∧ (t_run b m r lc dc l v).1 ≤ r + m := by
  intro m
  induction m with
  | zero => intro r lc dc l v; exact ⟨Nat.le_refl _, Nat.le_refl _⟩
  | succ m ih =>
    intro r lc dc l v
    unfold t_run
    split
    · have := ih (r + 1) (lc + 1) dc (l * 32 + (b r - 97 + 1).toInt64) v; omega
    · split
      · have := ih (r + 1) lc (dc + 1) l (v * 10 + (b r - 48)); omega
      · exact ⟨Nat.le_refl _, by omega⟩
