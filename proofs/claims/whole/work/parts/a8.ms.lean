/-! in the middle of a line -/
section MS
variable {X Y X1 Y1 X0 Y0 : X_} {n p : Nat} {D : m_V} {N : m_L} {S : Nat → Int32} {M : Nat → Int64} {hx hy lx ly : Int32}
def MS (X0 Y0 : X_) (n p : Nat) (D : m_V) (N : m_L) (S : Nat → Int32) (M : Nat → Int64) (hx hy lx ly : Int32) (X Y : X_) : Prop := (TB X Y n 1400 p ∧ X.1 1 9 = 0 ∧ Y.1 218 15 = 0) ∧ LF X0 X ∧ LG Y0 Y ∧ (bP X 26 = D ∧ bPJ X 26 = N) ∧ (Y.1 221 = S ∧ ∀ j, Y.2.1 223 (41 + j) = M j) ∧ (X.1 25 2 = hx ∧ Y.1 218 20 = hy) ∧ X.1 25 1 = lx ∧ Y.1 218 19 = ly
theorem MS.b (h : MS X0 Y0 n p D N S M hx hy lx ly X Y) : TB X Y n 1400 p := h.1.1
theorem MS.f (h : MS X0 Y0 n p D N S M hx hy lx ly X Y) : LF X0 X := h.2.1
theorem MS.g (h : MS X0 Y0 n p D N S M hx hy lx ly X Y) : LG Y0 Y := h.2.2.1
theorem MS.d (h : MS X0 Y0 n p D N S M hx hy lx ly X Y) : bP X 26 = D := h.2.2.2.1.1
theorem MS.nn (h : MS X0 Y0 n p D N S M hx hy lx ly X Y) : bPJ X 26 = N := h.2.2.2.1.2
theorem MS.s (h : MS X0 Y0 n p D N S M hx hy lx ly X Y) : Y.1 221 = S := h.2.2.2.2.1.1
theorem MS.m (h : MS X0 Y0 n p D N S M hx hy lx ly X Y) (j : Nat) : Y.2.1 223 (41 + j) = M j := h.2.2.2.2.1.2 j
theorem MS.fail (h : MS X0 Y0 n p D N S M hx hy lx ly X Y) (e : FL X Y X1 Y1) : LX X0 Y0 X1 Y1 := LX.of e h.f h.g
theorem LR.ms (h : LR X0 Y0 n p X Y) : MS X0 Y0 n p (bP X 26) (bPJ X 26) (Y.1 221) (fun j => Y.2.1 223 (41 + j)) (X.1 25 2) (Y.1 218 20) (X.1 25 1) (Y.1 218 19) X Y := ⟨h.1, h.2.2.1, h.2.2.2.1, ⟨rfl, rfl⟩, ⟨rfl, fun _ => rfl⟩, ⟨rfl, rfl⟩, rfl, rfl⟩
theorem MS.next (h : MS X0 Y0 n p D N S M hx hy lx ly X Y) : ∃ X1 Y1 p', fX10_next X = some ((), X1) ∧ fX12_next Y = some ((), Y1) ∧ MS X0 Y0 n p' D N S M hx hy lx ly X1 Y1 ∧ TK X1 Y1 ∧ Y1.1 218 18 = Y.1 218 18 ∧ p ≤ p' ∧ (X1.1 1 4 = 3 → ∃ a, X1.1 1 5 = nI a ∧ p ≤ a ∧ a < p' ∧ a < 1400) ∧ (X1.1 1 4 = 1 ∨ X1.1 1 4 = 2 → p < p') := by
  obtain ⟨⟨hB, hB9, hB15⟩, hF, hG, ⟨h1, h2⟩, ⟨h3, h4⟩, ⟨h5, h6⟩, h7, h8⟩ := h
  obtain ⟨X1, Y1, p', a1, a2, a3, a4, a5, a6, a7, a8, a9, a10, a11, a12⟩ := r_nextM hB
  refine ⟨X1, Y1, p', a1, a2, ⟨⟨a3, by rw [a11]; exact hB9, by rw [a12]; exact hB15⟩, hF.k a5, hG.g a6, ⟨by rw [a5.P (by decide)]; exact h1, by rw [a5.PJ (by decide)]; exact h2⟩, ⟨by rw [a6.1 221 (by decide)]; exact h3, fun j => by rw [a6.2.2.1 223 _ (by omega)]; exact h4 j⟩, ⟨by rw [a5.1 25 (by decide)]; exact h5, by rw [a6.2.1 20 (by decide) (by omega)]; exact h6⟩, by rw [a5.1 25 (by decide)]; exact h7, by rw [a6.2.1 19 (by decide) (by omega)]; exact h8⟩, a4, a7, a8, a9, a10⟩
theorem MS.yi (h : MS X0 Y0 n p D N S M hx hy lx ly X Y) (k : Nat) (v : Int32) : MS X0 Y0 n p D N (upS S k v) M hx hy lx ly X (sI Y 221 k v) := by
  obtain ⟨⟨hB, hB9, hB15⟩, hF, hG, h1, ⟨h3, h4⟩, ⟨h5, h6⟩, h7, h8⟩ := h
  refine ⟨⟨hB.y (sI_ne (by omega)) (sI_ne (by omega)) (sI_ne (by omega)) (sI_row (by decide)) rfl, hB9, by rw [sI_ne (by omega)]; exact hB15⟩, hF, hG.h, h1, ⟨?_, h4⟩, ⟨h5, by rw [sI_ne (by omega)]; exact h6⟩, h7, by rw [sI_ne (by omega)]; exact h8⟩
  rw [← h3]
  funext j
  rw [sI_i]
  unfold upS
  exact if_iff ⟨fun z => z.2, fun z => ⟨rfl, z⟩⟩
theorem MS.got (h : MS X0 Y0 n p D N S M hx hy lx ly X Y) (v : Int32) : MS X0 Y0 n p D N S M hx hy lx ly X (sI Y 218 18 v) := by
  obtain ⟨⟨hB, hB9, hB15⟩, hF, hG, h1, ⟨h3, h4⟩, ⟨h5, h6⟩, h7, h8⟩ := h
  exact ⟨⟨hB.y (sI_ne (by omega)) (sI_ne (by omega)) (sI_ne (by omega)) (sI_row (by decide)) rfl, hB9, by rw [sI_ne (by omega)]; exact hB15⟩, hF, hG.i (by omega), h1, ⟨by rw [sI_row (by decide)]; exact h3, h4⟩, ⟨h5, by rw [sI_ne (by omega)]; exact h6⟩, h7, by rw [sI_ne (by omega)]; exact h8⟩
theorem MS.yj (h : MS X0 Y0 n p D N S M hx hy lx ly X Y) (k : Nat) (v : Int64) : MS X0 Y0 n p D N S (uM M k v) hx hy lx ly X (sJ Y 223 (41 + k) v) := by
  obtain ⟨⟨hB, hB9, hB15⟩, hF, hG, h1, ⟨h3, h4⟩, ⟨h5, h6⟩, h7, h8⟩ := h
  refine ⟨⟨hB.y rfl rfl rfl rfl (sJ_rowJ (by decide)), hB9, hB15⟩, hF, hG.j (by omega), h1, ⟨h3, fun j => ?_⟩, ⟨h5, h6⟩, h7, h8⟩
  rw [sJ_j]
  unfold uM
  by_cases c : j = k
  · rw [if_pos ⟨rfl, by omega⟩, if_pos c]
  · rw [if_neg (by omega), if_neg c]; exact h4 j
theorem MS.xi (h : MS X0 Y0 n p D N S M hx hy lx ly X Y) {j : Nat} (hj : j < 21) (k : Nat) (v : Int32) : MS X0 Y0 n p (u2 D j k v) N S M hx hy lx ly (sI X (26 + j) k v) Y := by
  obtain ⟨⟨hB, hB9, hB15⟩, hF, hG, ⟨h1, h2⟩, h3, ⟨h5, h6⟩, h7, h8⟩ := h
  exact ⟨⟨hB.x (sI_row (by omega)) (sI_row (by omega)) rfl, by rw [sI_ne (by omega)]; exact hB9, hB15⟩, hF.i (by omega), hG, ⟨by rw [bP_i hj, h1], h2⟩, h3, ⟨by rw [sI_ne (by omega)]; exact h5, h6⟩, by rw [sI_ne (by omega)]; exact h7, h8⟩
theorem MS.add (h : MS X0 Y0 n p D N S M hx hy lx ly X Y) {s c : Nat} {a : Int32} {x : Int64} (ha : a = nI s) (hs : s < 8) (hc : D 1 s = nI c) (h12 : c < 12) : ∃ X1, fX5_addOne 26 a x X = some (nI c, X1) ∧ MS X0 Y0 n p (u2 D 1 s (nI (c + 1))) (u2l N 2 (s * 12 + c) x) S M hx hy lx ly X1 Y := by
  obtain ⟨⟨hB, hB9, hB15⟩, hF, hG, ⟨h1, h2⟩, h3, ⟨h5, h6⟩, h7, h8⟩ := h
  obtain ⟨X1, e1, e2, e3, e4, e5, e6, e7⟩ := e_addOne (X := X) (x := x) ha hs (by rw [h1]; exact hc) h12
  refine ⟨X1, e1, ⟨hB.x (e5 1 (by omega)) (e5 2 (by omega)) (e6 3 (by omega)), by rw [e5 1 (by omega)]; exact hB9, hB15⟩, ?_, hG, ⟨by rw [e3, h1], by rw [e4, h2]⟩, h3, ⟨by rw [e5 25 (by omega)]; exact h5, h6⟩, by rw [e5 25 (by omega)]; exact h7, h8⟩
  rw [e2]; exact hF.bk
/-- the line is read -/
theorem MS.done (h : MS X0 Y0 n p D N S M hx hy lx ly X Y) (K : TK X Y) (d : DR p D N S M) (hh : hx = hy) (h01 : hy = 0 ∨ hy = 1) (hl : lx = ly) : LR X0 Y0 n p X Y := by
  obtain ⟨⟨hB, hB9, hB15⟩, hF, hG, ⟨h1, h2⟩, ⟨h3, h4⟩, ⟨h5, h6⟩, h7, h8⟩ := h
  refine ⟨⟨hB, hB9, hB15⟩, K, hF, hG, ?_, ⟨by rw [h5, h6, hh], by rw [h6]; exact h01⟩, by rw [h7, h8, hl]⟩
  rw [h1, h2, h3, show (fun j => Y.2.1 223 (41 + j)) = M from funext h4]
  exact d
theorem LE.ok {X2 Y2 : X_} {f g : RM Int32} {p' : Nat} (h1 : f X = some (1, X2)) (h2 : g Y = some (1, Y2)) (h : LR X0 Y0 n p' X2 Y2) (h25 : X2.1 25 1 = X.1 25 1) (hp : p ≤ p') (hs : X2.1 1 4 = 3 → ∃ a, X2.1 1 5 = nI a ∧ p ≤ a ∧ a < p' ∧ a < 1400) : LE X0 Y0 n p X Y f g := ⟨1, X2, Y2, h1, h2, Or.inr ⟨rfl, h25, p', h, hp, hs⟩⟩
theorem k_room {s c most : Nat} {a m : Int32} (ha : a = nI s) (hs : s < 8) (hm : m = nI most) (hc : bP X 26 1 s = nI c) (h1 : c < 2 ^ 31) (h2 : most < 2 ^ 31) : fX6_hasRoom a m X = if c < most then some (1, X) else some (0, wX X 4) := by
  subst ha; subst hm
  unfold fX6_hasRoom
  rw [k_P hs (by decide) (by decide), hc, it_e]
  by_cases e : c < most
  · rw [if_pos ((nI_ltI h1 h2).mpr e), if_pos e]; rfl
  · rw [if_neg (fun z => e ((nI_ltI h1 h2).mp z)), if_neg e, ca_s (e_wrong 4), it_t rfl]; rfl
theorem k_newM (h : MS X0 Y0 n p D N S M hx hy lx ly X Y) (hP : okP D) (hn : fX10_next X = some ((), X1)) : fX10_nextNewName 26 X = k_nw 26 X1 := (k_nextNew h.b.ok (by decide) (by rw [h.d]; exact hP)).trans (ca_s hn)
theorem k_namM (h : MS X0 Y0 n p D N S M hx hy lx ly X Y) {s c : Nat} {a : Int32} (ha : a = nI s) (hs : s < 8) (hc : D 1 s = nI c) (h12 : c ≤ 12) (hn : fX10_next X = some ((), X1)) : fX10_nextNamed 26 a X = fX10_named 26 a X1 := (k_nextNamed h.b.ok (by decide) ha hs (by rw [h.d]; exact hc) h12).trans (ca_s hn)
theorem MS.look (h : MS X0 Y0 n p D N S M hx hy lx ly X Y) (K : TK X Y) {s f c : Nat} {a af am : Int32} (ha : a = nI s) (hs : s < 8) (hc : D 1 s = nI c) (h12 : c ≤ 12) (hf : af = nI (41 + f)) (hfc : f + c ≤ 41) (hm : am = nI c) (hN : ∀ i, i < c → wr (N 2 (s * 12 + i)) (M (f + i))) :
    (∃ X1 Y1, fX10_named 26 a X = some (-1, X1) ∧ fX12_looksAt af am Y = some (0, Y1) ∧ FL X Y X1 Y1) ∨ ∃ k, k < c ∧ fX10_named 26 a X = some (nI k, X) ∧ fX12_looksAt af am Y = some (1, sI Y 218 18 (nI k)) ∧ X.1 1 4 = 1 :=
  r_look h.b K ha hs (by rw [h.d]; exact hc) h12 hf (by omega) hm (fun i hi => by rw [h.nn, Nat.add_assoc, h.m]; exact hN i hi)
theorem MS.fresh (h : MS X0 Y0 n p D N S M hx hy lx ly X Y) (K : TK X Y) (hP : okP D) (hR : rN D N M) (hL : ∀ k, k < 8 → S k = D 1 k) {t : Nat} {a : Int32} (ha : a = nI (41 + t)) (ht : t < 41) :
    (∃ X1 Y1, k_nw 26 X = some (0, X1) ∧ fX12_fresh a Y = some (0, Y1) ∧ FL X Y X1 Y1) ∨ (∃ w, isWd w ∧ X.2.1 1 7 = c5 w ∧ Y.2.1 218 17 = c8 w ∧ k_nw 26 X = some (1, X) ∧ fX12_fresh a Y = (ca fX12_next fun _ => re 1) (sJ Y 223 (41 + t) (c8 w)) ∧ X.1 1 4 = 1) :=
  r_fresh h.b K (by rw [h.d]; exact hP) (by rw [h.d, h.nn, show (fun j => Y.2.1 223 (41 + j)) = M from funext h.m]; exact hR) (fun k hk => by rw [h.s, h.d]; exact hL k hk) ha (by omega)
theorem e_takesName {a b v : Int32} (h : fX12_looksAt a b Y = some (1, X)) (h2 : fX12_next X = some ((), Y1)) : fX12_takesName a b Y = some (1, Y1) := by
  unfold fX12_takesName
  rw [ca_s h, it_f (by decide), ca_s h2]; rfl
theorem e_takesName0 {a b : Int32} (h : fX12_looksAt a b Y = some (0, Y1)) : fX12_takesName a b Y = some (0, Y1) := by
  unfold fX12_takesName
  rw [ca_s h, it_t rfl]; rfl
end MS
