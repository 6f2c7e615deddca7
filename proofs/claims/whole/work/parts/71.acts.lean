/-! acts, ticks, draws, undo: both -/
section AX
variable {X X3 : X_} {V' : m_V} {S' : Nat → Int32} {h : Nat}
theorem rQ.fr {P Q : m_V} {S : Nat → Int32} (h : rQ P Q S) (e : ∀ k, 288 ≤ k → S' k = S k) : rQ P Q S' := by
  rcases h with ⟨h1, h2⟩ | ⟨h1, m, m1, m2, m3, m4, m5, m6⟩
  · exact Or.inl ⟨by rw [e 288 (by omega)]; exact h1, h2⟩
  · refine Or.inr ⟨h1, m, m1, m2, m3, by rw [e 288 (by omega)]; exact m4, fun i hi => ?_, m6⟩
    rw [e _ (by omega), e _ (by omega), e _ (by omega)]
    exact m5 i hi
theorem Inv.hn (hX : Inv X) : ∃ h, I_hn X h := hX.h
/-- the component's part of an act: what it may change -/
def chg (X X3 : X_) (V' : m_V) : Prop := (∀ a, ¬ (47 ≤ a ∧ a < 54) → ¬ (61 ≤ a ∧ a < 126) → X3.1 a = X.1 a) ∧ X3.2.1 = X.2.1 ∧ eqV V' (bV X3 47)
theorem chg.P (c : chg X X3 V') : bP X3 4 = bP X 4 := bB_same (fun a _ _ => c.1 a (by omega) (by omega))
theorem wd_new (hX : Inv X) (c : chg X X3 V') (hN : wfN (bP X 4) V') (hM : wfM (bP X 4) V') (hW : RW (bP X 4) V' S') (hf : fr (X.1 220) S') {Y : X_} (e1 : ∀ a, a < 218 → Y.1 a = X3.1 a) (e2 : Y.1 220 = S') (e3 : Y.2.1 = X.2.1) : I_w Y := by
  have w := hX.w
  have ok := w.ok
  have eP : bP Y 4 = bP X 4 := bB_same (fun a _ _ => by rw [e1 a (by omega)]; exact c.1 a (by omega) (by omega))
  have eJ : bPJ Y 4 = bPJ X 4 := bL_same (fun a _ _ => by rw [e3])
  have eV : bV Y 47 = bV X3 47 := bB_same (fun a _ _ => e1 a (by omega))
  have eQ : bQ Y 130 = bQ X 130 := bB_same (fun a _ _ => by rw [e1 a (by omega)]; exact c.1 a (by omega) (by omega))
  unfold I_w
  rw [eP, eJ, eV, eQ, e2, show Y.2.1 223 = X.2.1 223 by rw [e3]]
  exact ⟨w.l, w.c, w.r.fr w.l hf, w.n, c.2.2.wfN ok hN, c.2.2.RW ok hW, c.2.2.wfM ok hM, w.q.fr (fun k hk => hf k (Or.inr hk))⟩
/-- an act that was done -/
theorem act_done (hX : Inv X) (H : I_hn X h) (c : chg X X3 V') (hp : hpush X X3 h) (hN : wfN (bP X 4) V') (hM : wfM (bP X 4) V') (hW : RW (bP X 4) V' S') (hf : fr (X.1 220) S') {Y : X_} (e1 : ∀ a, a < 218 → Y.1 a = X3.1 a) (e2 : Y.1 220 = S') (e3 : Y.2.1 = X.2.1) (e4 : Y.2.2 = X3.2.2) (e5 : Y.1 225 = undR h (X.1 225) (X.1 220)) (e6 : Y.1 218 23 = nI (if h = 8 then 8 else h + 1)) (e7 : ∀ k, ¬ k = 0 → ¬ k = 23 → ¬ k = 37 → Y.1 218 k = X.1 218 k) (e8 : ∀ a, 218 < a → ¬ a = 220 → ¬ a = 225 → ¬ a = 226 → Y.1 a = X.1 a) : Inv Y := by
  have R : ∀ a, ¬ (47 ≤ a ∧ a < 54) → ¬ (61 ≤ a ∧ a < 126) → ¬ a = 218 → ¬ a = 220 → ¬ a = 225 → ¬ a = 226 → Y.1 a = X.1 a := fun a h1 h2 h3 h4 h5 h6 => by
    by_cases q : a < 218
    · rw [e1 a q]; exact c.1 a h1 h2
    · exact e8 a (by omega) h4 h5 h6
  have w := hX.w
  have eP : bP Y 4 = bP X 4 := bB_same (fun a _ _ => R a (by omega) (by omega) (by omega) (by omega) (by omega) (by omega))
  have hh : I_h Y := by
    refine H.push w.ok w.v w.m w.s ?_ eP e6 e5
    obtain ⟨p1, p2, p3, p4⟩ := hp
    have hb : ∀ g, g < 9 → bV Y (63 + 7 * g) = bV X3 (63 + 7 * g) := fun g hg => bB_same (fun a _ _ => e1 a (by omega))
    exact ⟨by rw [e4]; exact p1, by rw [e1 61 (by omega)]; exact p2, fun g hg hne => by rw [hb g hg]; exact p3 g hg hne, by rw [hb _ (H.2.2.2.1 h (by have := H.1; omega))]; exact p4⟩
  refine ⟨?_, ?_, ?_, ?_, ?_, ?_, ?_, ?_, ?_, ?_⟩
  · exact hX.t.of (congrFun (by exact R _ (by omega) (by omega) (by omega) (by omega) (by omega) (by omega)) 1) (by exact R _ (by omega) (by omega) (by omega) (by omega) (by omega) (by omega)) (by exact e7 _ (by decide) (by decide) (by decide)) (by exact R _ (by omega) (by omega) (by omega) (by omega) (by omega) (by omega))
  · exact hX.k.of (by rw [e3]) (by rw [e3])
  · exact wd_new hX c hN hM hW hf e1 e2 e3
  · exact hh
  · exact hX.i.of (fun a ha => by exact R _ (by omega) (by omega) (by omega) (by omega) (by omega) (by omega)) (fun a ha => by rw [e3])
  · exact hX.b.of (by exact R _ (by omega) (by omega) (by omega) (by omega) (by omega) (by omega)) (by exact e7 _ (by decide) (by decide) (by decide)) (by exact R _ (by omega) (by omega) (by omega) (by omega) (by omega) (by omega))
  · exact hX.c.of (fun a ha => by exact R _ (by omega) (by omega) (by omega) (by omega) (by omega) (by omega)) (by exact e7 _ (by decide) (by decide) (by decide)) (by exact e7 _ (by decide) (by decide) (by decide))
  · exact hX.f.of (fun a ha => by exact R _ (by omega) (by omega) (by omega) (by omega) (by omega) (by omega)) (by exact e7 _ (by decide) (by decide) (by decide)) (by exact e7 _ (by decide) (by decide) (by decide))
  · exact hX.g.of (fun a ha => by exact R _ (by omega) (by omega) (by omega) (by omega) (by omega) (by omega)) (by exact e7 _ (by decide) (by decide) (by decide))
  · exact hX.o.of (by exact R _ (by omega) (by omega) (by omega) (by omega) (by omega) (by omega)) (by exact e7 _ (by decide) (by decide) (by decide)) (by exact e7 _ (by decide) (by decide) (by decide)) (by exact e7 _ (by decide) (by decide) (by decide))
/-- one that was not -/
theorem act_not (hX : Inv X) (H : I_hn X h) (c : chg X X3 (bV X 47)) (hp : hsame X X3 h) {v : Int32} : Inv (sI X3 218 0 v) := by
  have w := hX.w
  have R : ∀ a, ¬ (47 ≤ a ∧ a < 54) → ¬ (61 ≤ a ∧ a < 126) → ¬ a = 218 → (sI X3 218 0 v).1 a = X.1 a := fun a h1 h2 h3 => by rw [sI_row h3]; exact c.1 a h1 h2
  have F : ∀ k, ¬ k = 0 → (sI X3 218 0 v).1 218 k = X.1 218 k := fun k hk => by rw [sI_ne (by omega)]; rw [c.1 218 (by omega) (by omega)]
  have hh : I_h (sI X3 218 0 v) := by
    refine H.same ?_ (bB_same (fun a _ _ => R a (by omega) (by omega) (by omega))) (F 23 (by decide)) (R 225 (by omega) (by omega) (by omega))
    obtain ⟨p1, p2, p3⟩ := hp
    exact ⟨p1, by rw [sI_row (by decide)]; exact p2, fun g hg hne => by rw [← p3 g hg hne]; exact bB_same (fun a _ _ => sI_row (by omega))⟩
  have hw : I_w (sI X3 218 0 v) := wd_new hX c w.v w.m w.s fr.refl (fun a ha => sI_row (by omega)) (by rw [sI_row (by decide)]; exact c.1 220 (by omega) (by omega)) c.2.1
  refine ⟨?_, ?_, ?_, ?_, ?_, ?_, ?_, ?_, ?_, ?_⟩
  · exact hX.t.of (congrFun (by exact R _ (by omega) (by omega) (by omega)) 1) (by exact R _ (by omega) (by omega) (by omega)) (by exact F _ (by decide)) (by exact R _ (by omega) (by omega) (by omega))
  · exact hX.k.of (by exact congrFun c.2.1 _) (by exact congrFun c.2.1 _)
  · exact hw
  · exact hh
  · exact hX.i.of (fun a ha => by exact R _ (by omega) (by omega) (by omega)) (fun a ha => by exact congrFun c.2.1 _)
  · exact hX.b.of (by exact R _ (by omega) (by omega) (by omega)) (by exact F _ (by decide)) (by exact R _ (by omega) (by omega) (by omega))
  · exact hX.c.of (fun a ha => by exact R _ (by omega) (by omega) (by omega)) (by exact F _ (by decide)) (by exact F _ (by decide))
  · exact hX.f.of (fun a ha => by exact R _ (by omega) (by omega) (by omega)) (by exact F _ (by decide)) (by exact F _ (by decide))
  · exact hX.g.of (fun a ha => by exact R _ (by omega) (by omega) (by omega)) (by exact F _ (by decide))
  · exact hX.o.of (by exact R _ (by omega) (by omega) (by omega)) (by exact F _ (by decide)) (by exact F _ (by decide)) (by exact F _ (by decide))
theorem act_noS (hX : Inv X) (H : I_hn X h) (c : chg X X3 V') (hp : hsame X X3 h) (hN : wfN (bP X 4) V') (hM : wfM (bP X 4) V') (hW : RW (bP X 4) V' S') (hf : fr (X.1 220) S') {Y : X_} (e1 : ∀ a, a < 218 → Y.1 a = X3.1 a) (e2 : Y.1 220 = S') (e3 : Y.2.1 = X.2.1) (e4 : Y.2.2 = X3.2.2) (e7 : ∀ k, ¬ k = 0 → ¬ k = 37 → Y.1 218 k = X.1 218 k) (e8 : ∀ a, 218 < a → ¬ a = 220 → ¬ a = 226 → Y.1 a = X.1 a) : Inv Y := by
  have w := hX.w
  have R : ∀ a, ¬ (47 ≤ a ∧ a < 54) → ¬ (61 ≤ a ∧ a < 126) → ¬ a = 218 → ¬ a = 220 → ¬ a = 226 → Y.1 a = X.1 a := fun a h1 h2 h3 h4 h6 => by
    by_cases q : a < 218
    · rw [e1 a q]; exact c.1 a h1 h2
    · exact e8 a (by omega) h4 h6
  have hh : I_h Y := by
    refine H.same ?_ (bB_same (fun a _ _ => R a (by omega) (by omega) (by omega) (by omega) (by omega))) (e7 23 (by decide) (by decide)) (R 225 (by omega) (by omega) (by omega) (by omega) (by omega))
    obtain ⟨p1, p2, p3⟩ := hp
    exact ⟨by rw [e4]; exact p1, by rw [e1 61 (by omega)]; exact p2, fun g hg hne => by rw [← p3 g hg hne]; exact bB_same (fun a _ _ => e1 a (by omega))⟩
  refine ⟨?_, ?_, ?_, ?_, ?_, ?_, ?_, ?_, ?_, ?_⟩
  · exact hX.t.of (congrFun (by exact R _ (by omega) (by omega) (by omega) (by omega) (by omega)) 1) (by exact R _ (by omega) (by omega) (by omega) (by omega) (by omega)) (by exact e7 _ (by decide) (by decide)) (by exact R _ (by omega) (by omega) (by omega) (by omega) (by omega))
  · exact hX.k.of (by rw [e3]) (by rw [e3])
  · exact wd_new hX c hN hM hW hf e1 e2 e3
  · exact hh
  · exact hX.i.of (fun a ha => by exact R _ (by omega) (by omega) (by omega) (by omega) (by omega)) (fun a ha => by rw [e3])
  · exact hX.b.of (by exact R _ (by omega) (by omega) (by omega) (by omega) (by omega)) (by exact e7 _ (by decide) (by decide)) (by exact R _ (by omega) (by omega) (by omega) (by omega) (by omega))
  · exact hX.c.of (fun a ha => by exact R _ (by omega) (by omega) (by omega) (by omega) (by omega)) (by exact e7 _ (by decide) (by decide)) (by exact e7 _ (by decide) (by decide))
  · exact hX.f.of (fun a ha => by exact R _ (by omega) (by omega) (by omega) (by omega) (by omega)) (by exact e7 _ (by decide) (by decide)) (by exact e7 _ (by decide) (by decide))
  · exact hX.g.of (fun a ha => by exact R _ (by omega) (by omega) (by omega) (by omega) (by omega)) (by exact e7 _ (by decide) (by decide))
  · exact hX.o.of (by exact R _ (by omega) (by omega) (by omega) (by omega) (by omega)) (by exact e7 _ (by decide) (by decide)) (by exact e7 _ (by decide) (by decide)) (by exact e7 _ (by decide) (by decide))
/-- the component notes, does, keeps -/
theorem k_act (hX : Inv X) (H : I_hn X h) (w full : Int32) (k : Nat) (hk : k < 2 ^ 31) (g1 : w = 13 ∨ w = 14 → k < ct (bP X 4) 4) (g2 : w = 15 → k < 6) :
    ∃ X3, (ca fX3_note fun _ => (ca (fX8_perform 47 w (nI k) full) fun v3 => (it (v3 = 0) (ca fX3_keepNoted fun _ => (re v3)) (re v3)))) X = some (s_perform (bP X 4) (bV X 47) w k full, X3) ∧ chg X X3 (s_performV (bP X 4) (bV X 47) w k full) ∧ (s_perform (bP X 4) (bV X 47) w k full = 0 → hpush X X3 h) ∧ (¬ s_perform (bP X 4) (bV X 47) w k full = 0 → hsame X X3 h) := by
  obtain ⟨X1, n1, n2, n3, n4, n5⟩ := k_note H
  have eP : bP X1 4 = bP X 4 := bB_same (fun a _ _ => n2 a (by omega))
  have eV : bV X1 47 = bV X 47 := bB_same (fun a _ _ => n2 a (by omega))
  have wd := hX.w
  have e2 : fX8_perform 47 w (nI k) full X1 = some (s_perform (bP X 4) (bV X 47) w k full, bk X1 47 7 (s_performV (bP X 4) (bV X 47) w k full) (bVJ X1 47)) := by
    unfold fX8_perform
    rw [gd_t, nI_clamp hk, eP, eV]
    rw [nI_clamp hk, eP]
    exact ⟨rfl, wfP_of wd.l, g1, g2⟩
  have j2 : (bk X1 47 7 (s_performV (bP X 4) (bV X 47) w k full) (bVJ X1 47)).2.1 = X.2.1 := by
    rw [← n3]
    funext a
    by_cases q : 47 ≤ a ∧ a < 47 + 7
    · obtain ⟨j, rfl⟩ : ∃ j, a = 47 + j := ⟨a - 47, by omega⟩
      rw [bk_inJ (by omega)]
      funext i
      exact if_pos (show j < 7 by omega)
    · exact bk_rowJ q
  have r2 : ∀ a, ¬ (47 ≤ a ∧ a < 54) → (bk X1 47 7 (s_performV (bP X 4) (bV X 47) w k full) (bVJ X1 47)).1 a = X1.1 a := fun a ha => bk_row (by omega)
  have v2 : eqV (s_performV (bP X 4) (bV X 47) w k full) (bV (bk X1 47 7 (s_performV (bP X 4) (bV X 47) w k full) (bVJ X1 47)) 47) := by
    show eqV _ (bB 7 _ _)
    rw [bB_bk]
    exact eqV.trim
  have b2' : ∀ g, g < 9 → bV (bk X1 47 7 (s_performV (bP X 4) (bV X 47) w k full) (bVJ X1 47)) (63 + 7 * g) = bV X1 (63 + 7 * g) := fun g _ => bB_bk' (by omega)
  have g2' : (bk X1 47 7 (s_performV (bP X 4) (bV X 47) w k full) (bVJ X1 47)).2.2 = X.2.2 := n4.1
  rw [ca_s n1, ca_s e2]
  generalize bk X1 47 7 (s_performV (bP X 4) (bV X 47) w k full) (bVJ X1 47) = X2 at j2 r2 v2 b2' g2' ⊢
  have hb : ∀ g, g < 9 → ¬ g = X.2.2 h → bV X2 (63 + 7 * g) = bV X (63 + 7 * g) := fun g hg hne => by rw [b2' g hg]; exact n4.2.2 g hg hne
  have hl : eqV (bV X 47) (bV X2 (63 + 7 * X.2.2 h)) := by rw [b2' _ (H.2.2.2.1 h (by have := H.1; omega))]; exact n5
  have h61 : X2.1 61 1 = nI h := by rw [r2 61 (by omega), n4.2.1]; exact H.2.1
  by_cases c : s_perform (bP X 4) (bV X 47) w k full = 0
  · obtain ⟨X3, m1, m2, m3, m4, m5⟩ := k_keep (X := X2) H.1 h61 (by rw [g2']; exact H.2.2.2.1)
    rw [it_t c, ca_s m1]
    have e47 : bV X3 47 = bV X2 47 := bB_same (fun a _ _ => m2 a (by omega))
    have eg : ∀ g, g < 9 → bV X3 (63 + 7 * g) = bV X2 (63 + 7 * g) := fun g hg => bB_same (fun a _ _ => m2 a (by omega))
    refine ⟨X3, rfl, ⟨fun a h1 h2 => ?_, by rw [m3, j2], by rw [e47]; exact v2⟩, fun _ => ⟨by rw [m5, g2'], m4, fun g hg hne => by rw [eg g hg]; exact hb g hg hne, by rw [eg _ (H.2.2.2.1 h (by have := H.1; omega))]; exact hl⟩, fun e => absurd c e⟩
    rw [m2 a (by omega), r2 a h1, n2 a (by omega)]
  · rw [it_f c]
    refine ⟨X2, rfl, ⟨fun a h1 h2 => ?_, j2, v2⟩, fun e => absurd e c, fun _ => ⟨g2', by rw [h61]; exact H.2.1.symm, hb⟩⟩
    rw [r2 a h1, n2 a (by omega)]
/-- behind the reference's noting -/
theorem e_st (H : I_hn X h) (c : chg X X3 V') {v : Int32} : ∃ Y, fX12_stores (sI X3 218 0 v) = some ((), Y) ∧ (∀ a, a < 218 → Y.1 a = X3.1 a) ∧ Y.1 220 = X.1 220 ∧ Y.2.1 = X.2.1 ∧ Y.2.2 = X3.2.2 ∧ Y.1 225 = undR h (X.1 225) (X.1 220) ∧ Y.1 218 23 = nI (if h = 8 then 8 else h + 1) ∧ (∀ k, ¬ k = 0 → ¬ k = 23 → Y.1 218 k = X.1 218 k) ∧ ∀ a, 218 < a → ¬ a = 225 → Y.1 a = X.1 a := by
  have h220 : (sI X3 218 0 v).1 220 = X.1 220 := by rw [sI_row (by decide)]; exact c.1 220 (by omega) (by omega)
  have h225 : (sI X3 218 0 v).1 225 = X.1 225 := by rw [sI_row (by decide)]; exact c.1 225 (by omega) (by omega)
  have h23 : (sI X3 218 0 v).1 218 23 = nI h := by rw [sI_ne (by decide), c.1 218 (by omega) (by omega)]; exact H.2.2.1
  have := e_stores (X := sI X3 218 0 v) H.1 h23
  rw [h220, h225] at this
  refine ⟨_, this, fun a ha => ?_, ?_, c.2.1, rfl, ?_, sI_eq, fun k k1 k2 => ?_, fun a a1 a2 => ?_⟩
  · rw [sI_row (by omega), setR_ne (by omega), sI_row (by omega)]
  · rw [sI_row (by decide), setR_ne (by decide), h220]
  · rw [sI_row (by decide), setR_eq]
  · rw [sI_ne (by omega), setR_ne (by decide), sI_ne (by omega), c.1 218 (by omega) (by omega)]
  · rw [sI_row (by omega), setR_ne a2, sI_row (by omega)]
    exact c.1 a (by omega) (by omega)
theorem wfM.of {P V W : m_V} (h : wfM P V) (h1 : W 0 1 = V 0 1) (h2 : ∀ t, W 6 t = V 6 t) : wfM P W := by
  obtain ⟨n, e, hn, ht⟩ := h
  exact ⟨n, by rw [h1]; exact e, hn, fun t q => by rw [h2]; exact ht t q⟩
/-- the reference does the rest: the row that came of it -/
theorem act_end (hX : Inv X) (H : I_hn X h) (c : chg X X3 V') (hp : hpush X X3 h) (hN : wfN (bP X 4) V') (hM : wfM (bP X 4) V') {Y : X_} (y1 : ∀ a, a < 218 → Y.1 a = X3.1 a) (y3 : Y.2.1 = X.2.1) (y4 : Y.2.2 = X3.2.2) (y5 : Y.1 225 = undR h (X.1 225) (X.1 220)) (y6 : Y.1 218 23 = nI (if h = 8 then 8 else h + 1)) (y7 : ∀ k, ¬ k = 0 → ¬ k = 23 → Y.1 218 k = X.1 218 k) (y8 : ∀ a, 218 < a → ¬ a = 225 → Y.1 a = X.1 a) (hW : RW (bP X 4) V' S') (hf : fr (X.1 220) S') : Inv (rowS Y S') :=
  act_done hX H c hp hN hM hW hf (fun a ha => by rw [rowS_ne (by omega)]; exact y1 a ha) rowS_220 y3 y4 (by rw [rowS_ne (by decide)]; exact y5) (by rw [rowS_ne (by decide)]; exact y6) (fun k k1 k2 _ => by rw [rowS_ne (by decide)]; exact y7 k k1 k2) (fun a a1 a2 a3 _ => by rw [rowS_ne a2]; exact y8 a a1 a3)
theorem sort13 : fX11_sortOfAct 13 X = some (4, X) := rfl
theorem sort14 : fX11_sortOfAct 14 X = some (4, X) := rfl
theorem sort15 : fX11_sortOfAct 15 X = some (1, X) := rfl
theorem sort16 : fX11_sortOfAct 16 X = some (0, X) := rfl
theorem sort19 : fX11_sortOfAct 19 X = some (0, X) := rfl
theorem why_in (P V : m_V) (r : Nat) : s_whyNotSet P V r = 0 ∨ s_whyNotSet P V r = 1 ∨ s_whyNotSet P V r = 2 ∨ s_whyNotSet P V r = 3 ∨ s_whyNotSet P V r = 4 ∨ s_whyNotSet P V r = 5 := by
  unfold s_whyNotSet
  repeat (split; · simp)
  simp
theorem why_pos {P V : m_V} {r : Nat} (h : ¬ s_whyNotSet P V r = 0) : ¬ s_whyNotSet P V r ≤ 0 := by
  rcases why_in P V r with e | e | e | e | e | e <;> rw [e] at h ⊢
  · exact absurd rfl h
  all_goals decide
theorem thr_in (P V : m_V) (k : Nat) : s_whyThrow P V k = 0 ∨ s_whyThrow P V k = 1 ∨ s_whyThrow P V k = 2 := by
  unfold s_whyThrow
  split
  · simp
  · split <;> simp
theorem thr_pos {P V : m_V} {k : Nat} (h : ¬ s_whyThrow P V k = 0) : ¬ s_whyThrow P V k ≤ 0 := by
  rcases thr_in P V k with e | e | e <;> rw [e] at h ⊢
  · exact absurd rfl h
  all_goals decide
theorem sim_set (a : Int32) : Sim (fX11_set a) (fX12_set a) := fun X hX => by
  have w := hX.w
  have ok := w.ok
  have h4 := ok.c4.2
  obtain ⟨h, H⟩ := hX.hn
  unfold fX11_set fX11_act fX12_set
  rw [ca_re, ca_s sort13, ca_s (k_has (by decide))]
  by_cases c : 0 ≤ a ∧ a < bP X 4 1 4
  · have c' := c
    rw [ok.c4.1] at c
    obtain ⟨r, hr, rfl⟩ := idx_of (by omega) c
    obtain ⟨X3, n1, n2, n3, n4⟩ := k_act hX H 13 0 r (by omega) (fun _ => hr) (fun e => absurd e (by decide))
    have eP := n2.P
    have hL : RLa (bP X 4) ((sI X3 218 0 0).1 220) := by rw [sI_row (by decide), n2.1 220 (by omega) (by omega)]; exact w.r
    have hS : RS (bP X 4) (bV X 47) ((sI X3 218 0 0).1 220) := by rw [sI_row (by decide), n2.1 220 (by omega) (by omega)]; exact w.s.1
    have why : s_perform (bP X 4) (bV X 47) 13 r 0 = s_whyNotSet (bP X 4) (bV X 47) r := rfl
    have whV : s_performV (bP X 4) (bV X 47) 13 r 0 = s_setV (bP X 4) (bV X 47) r := rfl
    rw [it_f (bz_t c'), n1]
    rw [why] at n3 n4 ⊢
    rw [whV] at n2
    by_cases q : s_whyNotSet (bP X 4) (bV X 47) r = 0
    · obtain ⟨Y, s1, y1, y2, y3, y4, y5, y6, y7, y8⟩ := e_st (v := 0) H n2
      refine ⟨0, X3, rowS Y (upS (X.1 220) (229 + r) 1), by rw [q], ?_, ?_⟩
      · rw [pI_e, ca_s (e_isRoute hL ok _), it_f (bz_t c'), ca_s (e_whySet hL ok w.l.r hS w.v hr), q, it_t (by decide), ca_s s1, ix_la, wA_n (by omega) (by decide), rowS_s0, y2]
        rfl
      · exact act_end hX H n2 (n3 q) (w.v.setV r) (w.m.of (by rw [s_setV, if_pos q, u2_ne (by omega)]) (fun t => by rw [s_setV, if_pos q, u2_ne (by omega)])) y1 y3 y4 y5 y6 y7 y8 (w.s.setV ok hr q) (fr.refl.u (by omega) (by omega))
    · refine ⟨_, X3, sI X3 218 0 0, rfl, ?_, ?_⟩
      · rw [pI_e, ca_s (e_isRoute hL ok _), it_f (bz_t c'), ca_s (e_whySet hL ok w.l.r hS w.v hr), it_f (why_pos q)]
        rfl
      · rw [s_setV, if_neg q] at n2
        exact act_not hX H n2 (n4 q)
  · refine ⟨-1, X, sI X 218 0 0, by rw [it_t (bz_f c)]; rfl, ?_, hX.thrown⟩
    rw [pI_e, ca_s (e_isRoute hX.L ok _), it_t (bz_f c)]
    rfl
theorem sim_back (a : Int32) : Sim (fX11_back a) (fX12_back a) := fun X hX => by
  have w := hX.w
  have ok := w.ok
  have h4 := ok.c4.2
  obtain ⟨h, H⟩ := hX.hn
  unfold fX11_back fX11_act fX12_back
  rw [ca_re, ca_s sort14, ca_s (k_has (by decide))]
  by_cases c : 0 ≤ a ∧ a < bP X 4 1 4
  · have c' := c
    rw [ok.c4.1] at c
    obtain ⟨r, hr, rfl⟩ := idx_of (by omega) c
    obtain ⟨X3, n1, n2, n3, n4⟩ := k_act hX H 14 0 r (by omega) (fun _ => hr) (fun e => absurd e (by decide))
    have e220 : (sI X3 218 0 0).1 220 = X.1 220 := by rw [sI_row (by decide), n2.1 220 (by omega) (by omega)]
    have hL : RLa (bP X 4) ((sI X3 218 0 0).1 220) := by rw [e220]; exact w.r
    have hS : RS (bP X 4) (bV X 47) ((sI X3 218 0 0).1 220) := by rw [e220]; exact w.s.1
    have why : s_perform (bP X 4) (bV X 47) 14 r 0 = s_back (bV X 47) r := rfl
    have whV : s_performV (bP X 4) (bV X 47) 14 r 0 = s_backV (bP X 4) (bV X 47) r := rfl
    rw [it_f (bz_t c'), n1]
    rw [why] at n3 n4 ⊢
    rw [whV] at n2
    by_cases q : bV X 47 1 r = 1
    · have q0 : s_back (bV X 47) r = 0 := by rw [s_back, if_pos q]
      obtain ⟨Y, s1, y1, y2, y3, y4, y5, y6, y7, y8⟩ := e_st (v := 0) H n2
      obtain ⟨S', p1, p2, p3⟩ := e_putsBack (X := Y) (S := X.1 220) w.r w.l w.s hr q
      rw [← y2, rowS_self] at p1
      refine ⟨0, X3, rowS Y S', by rw [q0], ?_, ?_⟩
      · rw [pI_e, ca_s (e_isRoute hL ok _), it_f (bz_t c'), ix_la, rA_n (by omega) (by decide), hS.how hr, it_t q, ca_s s1, ca_s p1]
        rfl
      · exact act_end hX H n2 (n3 q0) (w.v.backV w.l hr) (w.m.of (by unfold s_backV; rw [if_pos q]; split <;> simp (disch := omega) only [u2_ne]) (fun t => by unfold s_backV; rw [if_pos q]; split <;> simp (disch := omega) only [u2_ne])) y1 y3 y4 y5 y6 y7 y8 p2 p3
    · have q0 : s_back (bV X 47) r = 1 := by rw [s_back, if_neg q]
      refine ⟨1, X3, sI X3 218 0 0, by rw [q0], ?_, ?_⟩
      · rw [pI_e, ca_s (e_isRoute hL ok _), it_f (bz_t c'), ix_la, rA_n (by omega) (by decide), hS.how hr, it_f q]
        rfl
      · rw [s_backV, if_neg q] at n2
        exact act_not hX H n2 (n4 (by rw [q0]; decide))
  · refine ⟨-1, X, sI X 218 0 0, by rw [it_t (bz_f c)]; rfl, ?_, hX.thrown⟩
    rw [pI_e, ca_s (e_isRoute hX.L ok _), it_t (bz_f c)]
    rfl
theorem sim_turn (a : Int32) : Sim (fX11_turn a) (fX12_turn a) := fun X hX => by
  have w := hX.w
  have ok := w.ok
  have h1 := ok.c1.2
  obtain ⟨h, H⟩ := hX.hn
  unfold fX11_turn fX11_act fX12_turn
  rw [ca_re, ca_s sort15, ca_s (k_has (by decide))]
  by_cases c : 0 ≤ a ∧ a < bP X 4 1 1
  · have c' := c
    rw [ok.c1.1] at c
    obtain ⟨k, hk, rfl⟩ := idx_of (by omega) c
    obtain ⟨X3, n1, n2, n3, n4⟩ := k_act hX H 15 0 k (by omega) (fun e => by rcases e with e | e <;> exact absurd e (by decide)) (fun _ => by omega)
    have e220 : (sI X3 218 0 0).1 220 = X.1 220 := by rw [sI_row (by decide), n2.1 220 (by omega) (by omega)]
    have hL : RLa (bP X 4) ((sI X3 218 0 0).1 220) := by rw [e220]; exact w.r
    have hS : RS (bP X 4) (bV X 47) ((sI X3 218 0 0).1 220) := by rw [e220]; exact w.s.1
    have why : s_perform (bP X 4) (bV X 47) 15 k 0 = s_whyThrow (bP X 4) (bV X 47) k := rfl
    have whV : s_performV (bP X 4) (bV X 47) 15 k 0 = s_throwV (bP X 4) (bV X 47) k := rfl
    rw [it_f (bz_t c'), n1]
    rw [why] at n3 n4 ⊢
    rw [whV] at n2
    by_cases q : s_whyThrow (bP X 4) (bV X 47) k = 0
    · obtain ⟨Y, s1, y1, y2, y3, y4, y5, y6, y7, y8⟩ := e_st (v := 0) H n2
      refine ⟨0, X3, rowS Y (upS (X.1 220) 228 (X.1 220 228 ^^^ (1 <<< (nI k &&& 31)))), by rw [q], ?_, ?_⟩
      · rw [pI_e, ca_s (e_arePoints hL ok _), it_f (bz_t c'), ca_s (e_whyThrow hL w.l hS w.v hk), q, it_t (by decide), ca_s s1, rA_l (by decide) (by decide), wA_l (by decide) (by decide), rowS_s0, y2]
        rfl
      · exact act_end hX H n2 (n3 q) (w.v.throwV ok hk) (w.m.of (by rw [s_throwV, if_pos q, u2_ne (by omega)]) (fun t => by rw [s_throwV, if_pos q, u2_ne (by omega)])) y1 y3 y4 y5 y6 y7 y8 (w.s.throwV ok q) (fr.refl.u (by omega) (by omega))
    · refine ⟨_, X3, sI X3 218 0 0, rfl, ?_, ?_⟩
      · rw [pI_e, ca_s (e_arePoints hL ok _), it_f (bz_t c'), ca_s (e_whyThrow hL w.l hS w.v hk), it_f (thr_pos q)]
        rfl
      · rw [s_throwV, if_neg q] at n2
        exact act_not hX H n2 (n4 q)
  · refine ⟨-1, X, sI X 218 0 0, by rw [it_t (bz_f c)]; rfl, ?_, hX.thrown⟩
    rw [pI_e, ca_s (e_arePoints hX.L ok _), it_t (bz_f c)]
    rfl
theorem sim_mend (a : Int32) : Sim (fX11_mend a) (fX12_mend a) := fun X hX => by
  have w := hX.w
  have ok := w.ok
  have h0 := ok.c0.2
  obtain ⟨h, H⟩ := hX.hn
  unfold fX11_mend fX11_act fX12_mend
  rw [ca_re, ca_s sort19, ca_s (k_has (by decide))]
  by_cases c : 0 ≤ a ∧ a < bP X 4 1 0
  · have c' := c
    rw [ok.c0.1] at c
    obtain ⟨k, hk, rfl⟩ := idx_of (by omega) c
    obtain ⟨X3, n1, n2, n3, n4⟩ := k_act hX H 19 0 k (by omega) (fun e => by rcases e with e | e <;> exact absurd e (by decide)) (fun e => absurd e (by decide))
    have e220 : (sI X3 218 0 0).1 220 = X.1 220 := by rw [sI_row (by decide), n2.1 220 (by omega) (by omega)]
    have hL : RLa (bP X 4) ((sI X3 218 0 0).1 220) := by rw [e220]; exact w.r
    have hS : RS (bP X 4) (bV X 47) ((sI X3 218 0 0).1 220) := by rw [e220]; exact w.s.1
    have why : s_perform (bP X 4) (bV X 47) 19 k 0 = s_mend (bV X 47) (nI k) := rfl
    have whV : s_performV (bP X 4) (bV X 47) 19 k 0 = s_mendV (bV X 47) (nI k) := rfl
    rw [it_f (bz_t c'), n1]
    rw [why] at n3 n4 ⊢
    rw [whV] at n2
    by_cases q : s_failing (bV X 47) (nI k) = 0
    · have q0 : s_mend (bV X 47) (nI k) = 1 := by rw [s_mend, if_pos q]
      refine ⟨1, X3, sI X3 218 0 0, by rw [q0], ?_, ?_⟩
      · rw [pI_e, ca_s (e_isSection hL ok _), it_f (bz_t c'), ix_la, rA_n (by omega) (by decide), hS.fl hk, it_t q]
        rfl
      · rw [s_mendV, if_pos q] at n2
        exact act_not hX H n2 (n4 (by rw [q0]; decide))
    · have q0 : s_mend (bV X 47) (nI k) = 0 := by rw [s_mend, if_neg q]
      obtain ⟨Y, s1, y1, y2, y3, y4, y5, y6, y7, y8⟩ := e_st (v := 0) H n2
      refine ⟨0, X3, rowS Y (upS (X.1 220) (259 + k) 0), by rw [q0], ?_, ?_⟩
      · rw [pI_e, ca_s (e_isSection hL ok _), it_f (bz_t c'), ix_la, rA_n (by omega) (by decide), hS.fl hk, it_f q, ca_s s1, wA_n (by omega) (by decide), rowS_s0, y2]
        rfl
      · exact act_end hX H n2 (n3 q0) (w.v.mendV ok hk) (w.m.of (by rw [s_mendV, if_neg q, u2_ne (by omega), u2_ne (by omega)]) (fun t => by rw [s_mendV, if_neg q, u2_ne (by omega), u2_ne (by omega)])) y1 y3 y4 y5 y6 y7 y8 (w.s.mendV ok hk q) (fr.refl.u (by omega) (by omega))
  · refine ⟨-1, X, sI X 218 0 0, by rw [it_t (bz_f c)]; rfl, ?_, hX.thrown⟩
    rw [pI_e, ca_s (e_isSection hX.L ok _), it_t (bz_f c)]
    rfl
theorem sim_fail (a b : Int32) : Sim (fX11_fail a b) (fX12_fail a b) := fun X hX => by
  have w := hX.w
  have ok := w.ok
  have h0 := ok.c0.2
  obtain ⟨h, H⟩ := hX.hn
  have hb01 : (0 ≤ b ∧ b ≤ 1) ↔ (b = 0 ∨ b = 1) := by
    constructor
    · intro hb
      have hb2 : b < 2 := by
        have h2 := hb.2
        rw [i32_le] at h2
        rw [i32_lt]
        have e1 : (1 : Int32).toInt = 1 := rfl
        have e2 : (2 : Int32).toInt = 2 := rfl
        omega
      obtain ⟨k, hk, rfl⟩ := idx_of (n := 2) (by decide) ⟨hb.1, hb2⟩
      rcases (show k = 0 ∨ k = 1 by omega) with rfl | rfl
      · exact Or.inl rfl
      · exact Or.inr rfl
    · rintro (rfl | rfl) <;> decide
  have comp : fX11_fail a b X = (it (b = 0 ∨ b = 1) (fX11_act 16 a b) (re (-1))) X := by
    unfold fX11_fail
    by_cases c0 : b = 0
    · rw [it_t c0, it_t (Or.inl c0), ca_re]
    · rw [it_f c0]
      by_cases c1 : b = 1
      · rw [it_t c1, it_t (Or.inr c1), ca_re]
      · rw [it_f c1, it_f (by simp [c0, c1])]
  rw [comp]
  unfold fX12_fail
  by_cases cb : b = 0 ∨ b = 1
  · rw [it_t cb]
    unfold fX11_act
    rw [ca_s sort16, ca_s (k_has (by decide))]
    by_cases c : 0 ≤ a ∧ a < bP X 4 1 0
    · have c' := c
      rw [ok.c0.1] at c
      obtain ⟨k, hk, rfl⟩ := idx_of (by omega) c
      obtain ⟨X3, n1, n2, n3, n4⟩ := k_act hX H 16 b k (by omega) (fun e => by rcases e with e | e <;> exact absurd e (by decide)) (fun e => absurd e (by decide))
      have e220 : (sI X3 218 0 0).1 220 = X.1 220 := by rw [sI_row (by decide), n2.1 220 (by omega) (by omega)]
      have hL : RLa (bP X 4) ((sI X3 218 0 0).1 220) := by rw [e220]; exact w.r
      have hS : RS (bP X 4) (bV X 47) ((sI X3 218 0 0).1 220) := by rw [e220]; exact w.s.1
      have why : s_perform (bP X 4) (bV X 47) 16 k b = s_fail (bV X 47) (nI k) b := rfl
      have whV : s_performV (bP X 4) (bV X 47) 16 k b = s_failV (bV X 47) (nI k) b := rfl
      rw [it_f (bz_t c'), n1]
      rw [why] at n3 n4 ⊢
      rw [whV] at n2
      by_cases q : s_failing (bV X 47) (nI k) = b + 1
      · have q0 : s_fail (bV X 47) (nI k) b = 1 := by rw [s_fail, if_pos q]
        refine ⟨1, X3, sI X3 218 0 0, by rw [q0], ?_, ?_⟩
        · rw [pI_e, ca_s (e_isSection hL ok _), it_f (bz_t c'), ca_s (e_isIn _ _ _), it_f (bz_t (hb01.mpr cb)), ix_la, rA_n (by omega) (by decide), hS.fl hk, it_t q]
          rfl
        · rw [s_failV, if_pos q] at n2
          exact act_not hX H n2 (n4 (by rw [q0]; decide))
      · have q0 : s_fail (bV X 47) (nI k) b = 0 := by rw [s_fail, if_neg q]
        obtain ⟨Y, s1, y1, y2, y3, y4, y5, y6, y7, y8⟩ := e_st (v := 0) H n2
        refine ⟨0, X3, rowS Y (upS (X.1 220) (259 + k) (b + 1)), by rw [q0], ?_, ?_⟩
        · rw [pI_e, ca_s (e_isSection hL ok _), it_f (bz_t c'), ca_s (e_isIn _ _ _), it_f (bz_t (hb01.mpr cb)), ix_la, rA_n (by omega) (by decide), hS.fl hk, it_f q, ca_s s1, wA_n (by omega) (by decide), rowS_s0, y2]
          rfl
        · exact act_end hX H n2 (n3 q0) (w.v.failV ok hk b) (w.m.of (by rw [s_failV, if_neg q, u2_ne (by omega), u2_ne (by omega)]) (fun t => by rw [s_failV, if_neg q, u2_ne (by omega), u2_ne (by omega)])) y1 y3 y4 y5 y6 y7 y8 (w.s.failV ok hk cb q) (fr.refl.u (by omega) (by omega))
    · refine ⟨-1, X, sI X 218 0 0, by rw [it_t (bz_f c)]; rfl, ?_, hX.thrown⟩
      rw [pI_e, ca_s (e_isSection hX.L ok _), it_t (bz_f c)]
      rfl
  · refine ⟨-1, X, sI X 218 0 0, by rw [it_f cb]; rfl, ?_, hX.thrown⟩
    rw [pI_e, ca_s (e_isSection hX.L ok _)]
    by_cases c : 0 ≤ a ∧ a < bP X 4 1 0
    · rw [it_f (bz_t c), ca_s (e_isIn _ _ _), it_t (bz_f (fun e => cb (hb01.mp e)))]
      rfl
    · rw [it_t (bz_f c)]
      rfl
end AX
