/-! a token, in both -/
section TO
def ltr (c : Nat) : Bool := decide (97 ≤ c ∧ c ≤ 122)
def dgt (c : Nat) : Bool := decide (48 ≤ c ∧ c ≤ 57)
theorem ch_all : ∀ c, c < 256 → t_letter (nI c) = ltr c ∧ t_digit (nI c) = dgt c ∧ t_blank (nI c) = decide (c = 32 ∨ c = 10) ∧ ¬ (ltr c = true ∧ dgt c = true) := by decide +kernel
def n_end (v x : Int32) : RM Unit := (it (x = 0) (pI 218 11 4 (re ())) (gI 218 13 fun v28 => (it (v = 0) (it (v28 ≤ 3) (it (v = 0) (pI 218 11 2 (re ())) (pI 218 11 1 (re ()))) (pI 218 11 4 (re ()))) (it (v28 ≤ 7) (it (v = 0) (pI 218 11 2 (re ())) (pI 218 11 1 (re ()))) (pI 218 11 4 (re ()))))))
def n_step (L : Int32 → RM Unit) (v x : Int32) : RM Unit := (jo1 (fun w29 => (gI 218 13 fun v30 => (jo0 ((gI 218 13 fun v31 => (it (3 ≤ v31) (gI 218 13 fun v32 => (pI 218 13 (v32 + 1) (gI 218 4 fun v33 => (pI 218 4 (v33 + 1) (L w29))))) (gI 218 14 fun v34 => (ca fX12_peek fun v35 => (pI 218 14 (((10 * v34) + v35) - 48) (gI 218 13 fun v36 => (pI 218 13 (v36 + 1) (gI 218 4 fun v37 => (pI 218 4 (v37 + 1) (L w29))))))))))) (fun J248 => (it (7 ≤ v30) J248 (gJ 218 17 fun v38 => (ca fX12_peek fun v39 => (pJ 218 17 ((v38 <<< ((8 : Int32).toInt64 &&& 63)) ||| (v39.toInt64)) J248)))))))) (fun J221 => (it (x = 0) (J221 0) (ca fX12_peek fun v40 => (ca (fX12_isSmall v40) fun v41 => (it (v41 = v) (J221 1) (J221 0)))))))
def n_run (v : Int32) : RM Unit := lz1 (fun L x => ca fX12_peek fun v11 => ca (fX12_isSmall v11) fun v12 => it (v12 = 0) (ca fX12_peek fun v26 => ca (fX12_isDigit v26) fun v27 => it (v27 = 0) (n_end v x) (n_step L v x)) (n_step L v x)) FU 1
def n_word (v7 : Int32) : RM Unit := ca (fX12_isSmall v7) fun v9 => pJ 218 17 0 (pI 218 14 0 (n_run v9))
def n_sign (v7 : Int32) : RM Unit := (it (v7 = 59) (pI 218 11 3 (pI 218 14 v7 (gI 218 4 fun v43 => (pI 218 4 (v43 + 1) (re ()))))) (it (v7 = 40) (pI 218 11 3 (pI 218 14 v7 (gI 218 4 fun v44 => (pI 218 4 (v44 + 1) (re ()))))) (it (v7 = 41) (pI 218 11 3 (pI 218 14 v7 (gI 218 4 fun v45 => (pI 218 4 (v45 + 1) (re ()))))) (it (v7 < 60) (pI 218 11 4 (pI 218 14 v7 (gI 218 4 fun v46 => (pI 218 4 (v46 + 1) (re ()))))) (it (62 < v7) (pI 218 11 4 (pI 218 14 v7 (gI 218 4 fun v47 => (pI 218 4 (v47 + 1) (re ()))))) (pI 218 11 3 (pI 218 14 v7 (gI 218 4 fun v48 => (pI 218 4 (v48 + 1) (re ()))))))))))
def n_tok : RM Unit := ca fX12_peek fun v7 => it (0 ≤ v7) (ca (fX12_isSmall v7) fun v8 => jo0 (n_word v7) (fun J => it (v8 = 0) (ca (fX12_isDigit v7) fun v42 => it (v42 = 0) (n_sign v7) J) J)) (pI 218 11 0 (re ()))
def n_rest : RM Unit := gI 218 4 fun v4 => pI 218 12 v4 (pI 218 13 0 (gI 218 3 fun v5 => gI 218 5 fun v6 => jo0 n_tok (fun J => it (v5 ≤ v6) J (gI 218 4 fun v49 => gI 218 5 fun v50 => it (v49 < v50) J (gI 218 5 fun v51 => pI 218 12 v51 (pI 218 11 4 (re ())))))))
theorem next_def : fX12_next = lz0 (fun L0 => (ca fX12_peek fun v1 => (it (v1 = 32) (gI 218 4 fun v2 => (pI 218 4 (v2 + 1) L0)) (ca fX12_peek fun v3 => (it (v3 = 10) (gI 218 4 fun v52 => (pI 218 4 (v52 + 1) L0)) n_rest))))) FU := rfl
/-- what a token changes -/
def tS (Y Y' : X_) : Prop := (∀ a, ¬ a = 218 → Y'.1 a = Y.1 a) ∧ (∀ k, ¬ k = 4 → ¬ k = 11 → ¬ k = 12 → ¬ k = 13 → ¬ k = 14 → Y'.1 218 k = Y.1 218 k) ∧ (∀ a k, ¬ (a = 218 ∧ k = 17) → Y'.2.1 a k = Y.2.1 a k) ∧ Y'.2.2 = Y.2.2
variable {Y Y' Z : X_}
theorem tS.refl (Y : X_) : tS Y Y := ⟨fun _ _ => rfl, fun _ _ _ _ _ _ => rfl, fun _ _ _ => rfl, rfl⟩
theorem tS.tr (h : tS Y Y') (h' : tS Y' Z) : tS Y Z := ⟨fun a ha => (h'.1 a ha).trans (h.1 a ha), fun k a b c d e => (h'.2.1 k a b c d e).trans (h.2.1 k a b c d e), fun a k e => (h'.2.2.1 a k e).trans (h.2.2.1 a k e), h'.2.2.2.trans h.2.2.2⟩
theorem tS.i (h : tS Y Z) {k : Nat} {v : Int32} (hk : k = 4 ∨ k = 11 ∨ k = 12 ∨ k = 13 ∨ k = 14) : tS Y (sI Z 218 k v) :=
  ⟨fun a ha => (sI_row ha).trans (h.1 a ha), fun j a b c d e => (sI_ne (by omega)).trans (h.2.1 j a b c d e), h.2.2.1, h.2.2.2⟩
theorem tS.j (h : tS Y Z) {v : Int64} : tS Y (sJ Z 218 17 v) :=
  ⟨h.1, h.2.1, fun a k e => by rw [sJ_j, if_neg e]; exact h.2.2.1 a k e, h.2.2.2⟩
variable {B : Nat → Nat} {n p : Nat}
/-- the text that the reference has taken -/
def hB (B : Nat → Nat) (n : Nat) (Z : X_) : Prop := n ≤ 1460 ∧ Z.1 218 3 = nI n ∧ ∀ k, k < n → B k < 256 ∧ Z.1 219 k &&& 255 = nI (B k)
theorem hB.of (h : hB B n Y) (t : tS Y Z) : hB B n Z := ⟨h.1, (t.2.1 3 (by decide) (by decide) (by decide) (by decide) (by decide)).trans h.2.1, fun k hk => by rw [t.1 219 (by decide)]; exact h.2.2 k hk⟩
def pkv (B : Nat → Nat) (n p : Nat) : Int32 := if p < n then nI (B p) else -1
theorem e_peek (h : hB B n Z) (hp : p ≤ n) (h4 : Z.1 218 4 = nI p) : fX12_peek Z = some (pkv B n p, Z) := by
  have n1 := h.1
  unfold fX12_peek pkv
  rw [gI_e, gI_e, h4, h.2.1]
  by_cases c : p < n
  · rw [it_f (nI_ge c (by omega)), gI_e, h4, rA_n (by omega) (by decide), (h.2.2 p c).2, if_pos c]; rfl
  · rw [it_t (nI_le (by omega) (by omega)), if_neg c]; rfl
theorem e_isSm {c : Nat} (hc : c < 256) : fX12_isSmall (nI c) Z = some (b2 (ltr c), Z) := by
  unfold fX12_isSmall ltr
  rw [it_e]
  by_cases c1 : c < 97
  · rw [if_pos (show nI c < 97 from (nI_ltI (b := 97) (by omega) (by decide)).mpr c1), decide_eq_false (by omega)]; rfl
  · rw [if_neg (show ¬ nI c < 97 from fun e => c1 ((nI_ltI (b := 97) (by omega) (by decide)).mp e)), it_e]
    by_cases c2 : 122 < c
    · rw [if_pos (show 122 < nI c from (nI_ltI (a := 122) (by decide) (by omega)).mpr c2), decide_eq_false (by omega)]; rfl
    · rw [if_neg (show ¬ 122 < nI c from fun e => c2 ((nI_ltI (a := 122) (by decide) (by omega)).mp e)), decide_eq_true (by omega)]; rfl
theorem e_isDg {c : Nat} (hc : c < 256) : fX12_isDigit (nI c) Z = some (b2 (dgt c), Z) := by
  unfold fX12_isDigit dgt
  rw [it_e]
  by_cases c1 : c < 48
  · rw [if_pos (show nI c < 48 from (nI_ltI (b := 48) (by omega) (by decide)).mpr c1), decide_eq_false (by omega)]; rfl
  · rw [if_neg (show ¬ nI c < 48 from fun e => c1 ((nI_ltI (b := 48) (by omega) (by decide)).mp e)), it_e]
    by_cases c2 : 57 < c
    · rw [if_pos (show 57 < nI c from (nI_ltI (a := 57) (by decide) (by omega)).mpr c2), decide_eq_false (by omega)]; rfl
    · rw [if_neg (show ¬ 57 < nI c from fun e => c2 ((nI_ltI (a := 57) (by decide) (by omega)).mp e)), decide_eq_true (by omega)]; rfl
theorem e_isSm_m : fX12_isSmall (-1) Z = some (0, Z) := rfl
theorem e_isDg_m : fX12_isDigit (-1) Z = some (0, Z) := rfl
/-- a run of letters and digits -/
def rnl (B : Nat → Nat) : Nat → Nat → List Nat
  | 0, _ => []
  | m + 1, r => if (ltr (B r) || dgt (B r)) = true then B r :: rnl B m (r + 1) else []
def sWd (u : List Nat) : Int64 := (u.take 7).foldl (fun a c => (a <<< ((8 : Int32).toInt64 &&& 63)) ||| (nI c).toInt64) 0
def sNb (u : List Nat) : Int32 := (u.take 3).foldl (fun a c => ((10 * a) + nI c) - 48) 0
theorem take_lt {u : List Nat} {k c : Nat} (h : u.length < k) : (u ++ [c]).take k = u.take k ++ [c] := by
  rw [List.take_of_length_le (by rw [List.length_append]; exact h), List.take_of_length_le (by omega)]
theorem take_ge {u : List Nat} {k c : Nat} (h : k ≤ u.length) : (u ++ [c]).take k = u.take k := List.take_append_of_le_length h
theorem sW_lt {u : List Nat} {c : Nat} (h : u.length < 7) : sWd (u ++ [c]) = (sWd u <<< ((8 : Int32).toInt64 &&& 63)) ||| (nI c).toInt64 := by
  unfold sWd; rw [take_lt h, List.foldl_append]; rfl
theorem sW_ge {u : List Nat} {c : Nat} (h : 7 ≤ u.length) : sWd (u ++ [c]) = sWd u := by unfold sWd; rw [take_ge h]
theorem sNb_lt {u : List Nat} {c : Nat} (h : u.length < 3) : sNb (u ++ [c]) = ((10 * sNb u) + nI c) - 48 := by
  unfold sNb; rw [take_lt h, List.foldl_append]; rfl
theorem sNb_ge {u : List Nat} {c : Nat} (h : 3 ≤ u.length) : sNb (u ++ [c]) = sNb u := by unfold sNb; rw [take_ge h]
def aS (s : Bool) (u : List Nat) : Bool := u.all (fun c => ltr c == s)
theorem aS_app {s : Bool} {u : List Nat} {c : Nat} : aS s (u ++ [c]) = (aS s u && (ltr c == s)) := by unfold aS; rw [List.all_append]; simp
/-- the state of the run -/
def rI_ (u : List Nat) (r : Nat) (Z : X_) : Prop := Z.1 218 4 = nI r ∧ Z.1 218 13 = nI u.length ∧ Z.1 218 14 = sNb u ∧ Z.2.1 218 17 = sWd u
theorem e_nstep {u : List Nat} {r : Nat} {s : Bool} {L : Int32 → RM Unit} (h : hB B n Y) (t : tS Y Z) (hr : r < n) (hu : u.length ≤ 1460) (hi : rI_ u r Z) : ∃ Z', n_step L (b2 s) (b2 (aS s u)) Z = L (b2 (aS s (u ++ [B r]))) Z' ∧ tS Y Z' ∧ rI_ (u ++ [B r]) (r + 1) Z' ∧ Z'.1 218 12 = Z.1 218 12 := by
  have hZ := h.of t
  have n1 := h.1
  have c256 := (h.2.2 r hr).1
  obtain ⟨i4, i13, i14, i17⟩ := hi
  have pk : ∀ W, tS Y W → W.1 218 4 = nI r → fX12_peek W = some (nI (B r), W) := fun W tW hW => by
    rw [e_peek (h.of tW) (by omega) hW, pkv, if_pos hr]
  have len : (u ++ [B r]).length = u.length + 1 := by simp
  have key : ∀ w : Int32, ∃ Z', (gI 218 13 fun v30 => (jo0 ((gI 218 13 fun v31 => (it (3 ≤ v31) (gI 218 13 fun v32 => (pI 218 13 (v32 + 1) (gI 218 4 fun v33 => (pI 218 4 (v33 + 1) (L w))))) (gI 218 14 fun v34 => (ca fX12_peek fun v35 => (pI 218 14 (((10 * v34) + v35) - 48) (gI 218 13 fun v36 => (pI 218 13 (v36 + 1) (gI 218 4 fun v37 => (pI 218 4 (v37 + 1) (L w))))))))))) (fun J248 => (it (7 ≤ v30) J248 (gJ 218 17 fun v38 => (ca fX12_peek fun v39 => (pJ 218 17 ((v38 <<< ((8 : Int32).toInt64 &&& 63)) ||| (v39.toInt64)) J248))))))) Z = L w Z' ∧ tS Y Z' ∧ rI_ (u ++ [B r]) (r + 1) Z' ∧ Z'.1 218 12 = Z.1 218 12 := fun w => by
    -- the number, then the place
    have num : ∀ W, tS Y W → W.1 218 4 = nI r → W.1 218 13 = nI u.length → W.1 218 14 = sNb u → W.2.1 218 17 = sWd (u ++ [B r]) → W.1 218 12 = Z.1 218 12 → ∃ Z', (gI 218 13 fun v31 => (it (3 ≤ v31) (gI 218 13 fun v32 => (pI 218 13 (v32 + 1) (gI 218 4 fun v33 => (pI 218 4 (v33 + 1) (L w))))) (gI 218 14 fun v34 => (ca fX12_peek fun v35 => (pI 218 14 (((10 * v34) + v35) - 48) (gI 218 13 fun v36 => (pI 218 13 (v36 + 1) (gI 218 4 fun v37 => (pI 218 4 (v37 + 1) (L w)))))))))) W = L w Z' ∧ tS Y Z' ∧ rI_ (u ++ [B r]) (r + 1) Z' ∧ Z'.1 218 12 = Z.1 218 12 := fun W tW w4 w13 w14 w17 w12 => by
      rw [gI_e, w13]
      by_cases c : 3 ≤ u.length
      · rw [it_t (show 3 ≤ nI u.length from nI_le (a := 3) c (by omega)), gI_e, pI_e, gI_e, pI_e, w13, sI_ne (by decide), w4, nI_1, nI_1]
        refine ⟨_, rfl, (tW.i (by decide)).i (by decide), ⟨sI_eq, ?_, ?_, w17⟩, ?_⟩
        · rw [sI_ne (by decide), sI_eq, len]
        · rw [sI_ne (by decide), sI_ne (by decide), w14, sNb_ge c]
        · rw [sI_ne (by decide), sI_ne (by decide), w12]
      · rw [it_f (show ¬ 3 ≤ nI u.length from fun e => c ((nI_leI (a := 3) (by decide) (by omega)).mp e)), gI_e, ca_s (pk W tW w4), pI_e, gI_e, pI_e, gI_e, pI_e, w14, sI_ne (by decide), w13, sI_ne (by decide), sI_ne (by decide), w4, nI_1, nI_1]
        refine ⟨_, rfl, ((tW.i (by decide)).i (by decide)).i (by decide), ⟨sI_eq, ?_, ?_, w17⟩, ?_⟩
        · rw [sI_ne (by decide), sI_eq, len]
        · rw [sI_ne (by decide), sI_ne (by decide), sI_eq, sNb_lt (by omega)]
        · rw [sI_ne (by decide), sI_ne (by decide), sI_ne (by decide), w12]
    rw [gI_e, jo0_e, i13]
    by_cases c : 7 ≤ u.length
    · rw [it_t (show 7 ≤ nI u.length from nI_le (a := 7) c (by omega))]
      exact num Z t i4 i13 i14 (by rw [sW_ge c]; exact i17) rfl
    · rw [it_f (show ¬ 7 ≤ nI u.length from fun e => c ((nI_leI (a := 7) (by decide) (by omega)).mp e)), gJ_e, ca_s (pk Z t i4), pJ_e]
      exact num _ t.j i4 i13 i14 (by rw [sJ_j, if_pos ⟨rfl, rfl⟩, i17, sW_lt (by omega)]) rfl
  unfold n_step
  rw [jo1_e]
  dsimp only
  rw [aS_app]
  cases q : aS s u
  · rw [it_t (show b2 false = 0 from rfl), Bool.false_and]
    exact key _
  · rw [it_f (show ¬ b2 true = 0 by decide), ca_s (pk Z t i4), ca_s (e_isSm c256), Bool.true_and, it_e]
    by_cases e : ltr (B r) = s
    · rw [if_pos (by rw [e]), show (ltr (B r) == s) = true by simp [e]]
      exact key _
    · rw [if_neg (by revert e; cases ltr (B r) <;> cases s <;> simp [b2]), show (ltr (B r) == s) = false by simp [e]]
      exact key _
def tkd (s : Bool) (u : List Nat) : Int32 := if aS s u = true then (if s = true then (if u.length ≤ 7 then 1 else 4) else (if u.length ≤ 3 then 2 else 4)) else 4
theorem e_nend {u : List Nat} {s : Bool} (hu : u.length ≤ 1460) (h13 : Z.1 218 13 = nI u.length) : n_end (b2 s) (b2 (aS s u)) Z = some ((), sI Z 218 11 (tkd s u)) := by
  unfold n_end tkd
  cases aS s u
  · rw [it_t (show b2 false = 0 from rfl)]; rfl
  · rw [it_f (show ¬ b2 true = 0 by decide), gI_e, h13, if_pos rfl]
    cases s
    · rw [it_t (show b2 false = 0 from rfl)]
      by_cases c : u.length ≤ 3
      · rw [it_t (show nI u.length ≤ 3 from nI_le (b := 3) c (by decide)), it_t (show b2 false = 0 from rfl), if_neg (by decide), if_pos c]; rfl
      · rw [it_f (show ¬ nI u.length ≤ 3 from fun e => c ((nI_leI (b := 3) (by omega) (by decide)).mp e)), if_neg (by decide), if_neg c]; rfl
    · rw [it_f (show ¬ b2 true = 0 by decide)]
      by_cases c : u.length ≤ 7
      · rw [it_t (show nI u.length ≤ 7 from nI_le (b := 7) c (by decide)), it_f (show ¬ b2 true = 0 by decide), if_pos rfl, if_pos c]; rfl
      · rw [it_f (show ¬ nI u.length ≤ 7 from fun e => c ((nI_leI (b := 7) (by omega) (by decide)).mp e)), if_pos rfl, if_neg c]; rfl
theorem e_nrun {s : Bool} (h : hB B n Y) : ∀ m r u f Z, r + m = n → m < f → u.length ≤ r → tS Y Z → rI_ u r Z → ∃ Z', lz1 (fun L x => ca fX12_peek fun v11 => ca (fX12_isSmall v11) fun v12 => it (v12 = 0) (ca fX12_peek fun v26 => ca (fX12_isDigit v26) fun v27 => it (v27 = 0) (n_end (b2 s) x) (n_step L (b2 s) x)) (n_step L (b2 s) x)) f (b2 (aS s u)) Z = some ((), Z') ∧ tS Y Z' ∧ rI_ (u ++ rnl B m r) (r + (rnl B m r).length) Z' ∧ Z'.1 218 12 = Z.1 218 12 ∧ Z'.1 218 11 = tkd s (u ++ rnl B m r) := by
  have n1 := h.1
  have fin : ∀ u r Z, u.length ≤ r → r ≤ n → tS Y Z → rI_ u r Z → ∃ Z', n_end (b2 s) (b2 (aS s u)) Z = some ((), Z') ∧ tS Y Z' ∧ rI_ u r Z' ∧ Z'.1 218 12 = Z.1 218 12 ∧ Z'.1 218 11 = tkd s u := fun u r Z hu hr t hi => by
    refine ⟨_, e_nend (by omega) hi.2.1, t.i (by decide), ?_, sI_ne (by decide), sI_eq⟩
    exact ⟨(sI_ne (by decide)).trans hi.1, (sI_ne (by decide)).trans hi.2.1, (sI_ne (by decide)).trans hi.2.2.1, hi.2.2.2⟩
  intro m
  induction m with
  | zero =>
    intro r u f Z hr hf hu t hi
    obtain ⟨f, rfl⟩ : ∃ g, f = g + 1 := ⟨f - 1, by omega⟩
    rw [lz1_s, ca_s (e_peek (h.of t) (by omega) hi.1), pkv, if_neg (by omega), ca_s e_isSm_m, it_t rfl, ca_s (e_peek (h.of t) (by omega) hi.1), pkv, if_neg (by omega), ca_s e_isDg_m, it_t rfl, rnl, List.append_nil]
    exact fin u r Z hu (by omega) t hi
  | succ m ih =>
    intro r u f Z hr hf hu t hi
    obtain ⟨f, rfl⟩ : ∃ g, f = g + 1 := ⟨f - 1, by omega⟩
    have c256 := (h.2.2 r (by omega)).1
    have go : (ltr (B r) || dgt (B r)) = true → ∃ Z', n_step (lz1 (fun L x => ca fX12_peek fun v11 => ca (fX12_isSmall v11) fun v12 => it (v12 = 0) (ca fX12_peek fun v26 => ca (fX12_isDigit v26) fun v27 => it (v27 = 0) (n_end (b2 s) x) (n_step L (b2 s) x)) (n_step L (b2 s) x)) f) (b2 s) (b2 (aS s u)) Z = some ((), Z') ∧ tS Y Z' ∧ rI_ (u ++ rnl B (m + 1) r) (r + (rnl B (m + 1) r).length) Z' ∧ Z'.1 218 12 = Z.1 218 12 ∧ Z'.1 218 11 = tkd s (u ++ rnl B (m + 1) r) := fun q => by
      obtain ⟨Z1, a1, a2, a3, a4⟩ := e_nstep (s := s) (L := lz1 (fun L x => ca fX12_peek fun v11 => ca (fX12_isSmall v11) fun v12 => it (v12 = 0) (ca fX12_peek fun v26 => ca (fX12_isDigit v26) fun v27 => it (v27 = 0) (n_end (b2 s) x) (n_step L (b2 s) x)) (n_step L (b2 s) x)) f) h t (by omega) (by omega) hi
      obtain ⟨Z2, b1, b2', b3, b4, b5⟩ := ih (r + 1) (u ++ [B r]) f Z1 (by omega) (by omega) (by simp; omega) a2 a3
      have e : u ++ rnl B (m + 1) r = (u ++ [B r]) ++ rnl B m (r + 1) := by rw [rnl, if_pos q]; simp
      have e2 : r + (rnl B (m + 1) r).length = r + 1 + (rnl B m (r + 1)).length := by rw [rnl, if_pos q, List.length_cons]; omega
      rw [e, e2]
      exact ⟨Z2, a1.trans b1, b2', b3, b4.trans a4, b5⟩
    rw [lz1_s, ca_s (e_peek (h.of t) (by omega) hi.1), pkv, if_pos (by omega), ca_s (e_isSm c256)]
    cases q1 : ltr (B r)
    · rw [it_t (show b2 false = 0 from rfl), ca_s (e_peek (h.of t) (by omega) hi.1), pkv, if_pos (by omega), ca_s (e_isDg c256)]
      cases q2 : dgt (B r)
      · rw [it_t (show b2 false = 0 from rfl), rnl, q1, q2, if_neg (by decide), List.append_nil]
        exact fin u r Z hu (by omega) t hi
      · rw [it_f (show ¬ b2 true = 0 by decide)]
        exact go (by rw [q1, q2]; rfl)
    · rw [it_f (show ¬ b2 true = 0 by decide)]
      exact go (by rw [q1]; rfl)
/-- blanks -/
theorem e_skip {b : Nat → Int32} {K : RM Unit} {Q : Option (Unit × X_) → Prop} (h : hB B n Y) (hb : ∀ k, k < n → b k = nI (B k)) (hp : p ≤ n) (h4 : Y.1 218 4 = nI p) (hK : ∀ Z, tS Y Z → Z.1 218 4 = nI (t_skip b (n - p) p) → t_skip b (n - p) p ≤ n → p ≤ t_skip b (n - p) p → Q (K Z)) : Q (lz0 (fun L0 => (ca fX12_peek fun v1 => (it (v1 = 32) (gI 218 4 fun v2 => (pI 218 4 (v2 + 1) L0)) (ca fX12_peek fun v3 => (it (v3 = 10) (gI 218 4 fun v52 => (pI 218 4 (v52 + 1) L0)) K))))) FU Y) := by
  have n1 := h.1
  refine lz0_post (fun m Z => tS Y Z ∧ ∃ r, Z.1 218 4 = nI r ∧ p ≤ r ∧ r ≤ n ∧ m = n - r ∧ t_skip b (n - p) p = t_skip b (n - r) r) Q (fun m Z L hI ih => ?_) FU (n - p) Y (by rw [FU_eq]; omega) ⟨tS.refl Y, p, h4, Nat.le_refl _, hp, rfl, rfl⟩
  obtain ⟨t, r, r4, pr, rn', rfl, e⟩ := hI
  rw [ca_s (e_peek (h.of t) rn' r4)]
  by_cases c : r < n
  · have c256 := (h.2.2 r c).1
    rw [pkv, if_pos c]
    have st := skip_step (b := b) c
    rw [hb r c, (ch_all _ c256).2.2.1] at st
    have nx : (B r = 32 ∨ B r = 10) → Q (gI 218 4 (fun v2 => (pI 218 4 (v2 + 1) L)) Z) := fun q => by
      rw [decide_eq_true q, if_pos rfl] at st
      rw [gI_e, r4, pI_e, nI_1]
      exact ih (n - (r + 1)) _ (by omega) ⟨t.i (by decide), r + 1, sI_eq, by omega, by omega, rfl, by rw [e, st]⟩
    by_cases q : B r = 32
    · rw [it_t (by rw [q]; rfl)]
      exact nx (Or.inl q)
    · rw [it_f (show ¬ nI (B r) = 32 from fun z => q ((nI_eq (b := 32) (by omega) (by decide)).mp z)), ca_s (e_peek (h.of t) rn' r4), pkv, if_pos c]
      by_cases q2 : B r = 10
      · rw [it_t (by rw [q2]; rfl)]
        exact nx (Or.inr q2)
      · rw [it_f (show ¬ nI (B r) = 10 from fun z => q2 ((nI_eq (b := 10) (by omega) (by decide)).mp z))]
        rw [decide_eq_false (by rintro (z | z); exact q z; exact q2 z), if_neg (by decide)] at st
        rw [st] at e
        exact hK Z t (by rw [e]; exact r4) (by omega) (by omega)
  · rw [pkv, if_neg c, it_f (by decide), ca_s (e_peek (h.of t) rn' r4), pkv, if_neg c, it_f (by decide)]
    have : t_skip b (n - r) r = r := by rw [show n - r = 0 by omega]; rfl
    rw [this] at e
    exact hK Z t (by rw [e]; exact r4) (by omega) (by omega)
end TO
