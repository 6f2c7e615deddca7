/-! one change of what is so, in both -/
section UP
variable {P V : m_V} {S : Nat → Int32}
theorem RS.u5 (h : RS P V S) (w : okP P) {t : Nat} (ht : t < ct P 6) (x : Int32) : RS P (u2 V 5 t x) (upS S (276 + t) x) := by
  have h0 := w.c0.2
  have h4 := w.c4.2
  have h6 := w.c6.2
  refine ⟨?_, ?_, ?_, ?_, fun k hk => ?_, fun q hq => ?_, fun u hu => ?_⟩
  · first | (simp (disch := omega) only [upS_ne, upS_eq, u2_ne, u2_eq]; done) | (try simp (disch := omega) only [upS_ne, u2_ne]; exact h.tick)
  · first | (simp (disch := omega) only [upS_ne, upS_eq, u2_ne, u2_eq]; done) | (try simp (disch := omega) only [upS_ne, u2_ne]; exact h.met)
  · first | (simp (disch := omega) only [upS_ne, upS_eq, u2_ne, u2_eq]; done) | (try simp (disch := omega) only [upS_ne, u2_ne]; exact h.rev)
  · first | (simp (disch := omega) only [upS_ne, upS_eq, u2_ne, u2_eq]; done) | (try simp (disch := omega) only [upS_ne, u2_ne]; exact h.cr)
  · simp (disch := omega) only [s_failing, upS_ne, u2_ne]
    exact h.fl hk
  · simp (disch := omega) only [upS_ne, u2_ne]
    exact h.r q hq
  · by_cases c : u = t
    · subst c
      simp (disch := omega) only [upS_ne, upS_eq, u2_ne, u2_eq]
      first | done | (simp; done) | exact ⟨h.at hu, h.st hu⟩ | exact ⟨h.at hu, h.wd hu⟩ | exact ⟨h.st hu, h.wd hu⟩ | exact ⟨rfl, h.st hu, h.wd hu⟩ | exact ⟨h.at hu, rfl, h.wd hu⟩ | exact ⟨h.at hu, h.st hu, rfl⟩ | (simp only [true_and, and_true]; first | exact ⟨h.at hu, h.st hu⟩ | exact ⟨h.at hu, h.wd hu⟩ | exact ⟨h.st hu, h.wd hu⟩)
    · simp (disch := omega) only [upS_ne, u2_ne]
      exact h.t u hu
theorem RS.u4 (h : RS P V S) (w : okP P) {t : Nat} (ht : t < ct P 6) (c : Int32) : RS P (u2 V 4 t c) (upS S (271 + t) (c + 1)) := by
  have h0 := w.c0.2
  have h4 := w.c4.2
  have h6 := w.c6.2
  refine ⟨?_, ?_, ?_, ?_, fun k hk => ?_, fun q hq => ?_, fun u hu => ?_⟩
  · first | (simp (disch := omega) only [upS_ne, upS_eq, u2_ne, u2_eq]; done) | (try simp (disch := omega) only [upS_ne, u2_ne]; exact h.tick)
  · first | (simp (disch := omega) only [upS_ne, upS_eq, u2_ne, u2_eq]; done) | (try simp (disch := omega) only [upS_ne, u2_ne]; exact h.met)
  · first | (simp (disch := omega) only [upS_ne, upS_eq, u2_ne, u2_eq]; done) | (try simp (disch := omega) only [upS_ne, u2_ne]; exact h.rev)
  · first | (simp (disch := omega) only [upS_ne, upS_eq, u2_ne, u2_eq]; done) | (try simp (disch := omega) only [upS_ne, u2_ne]; exact h.cr)
  · simp (disch := omega) only [s_failing, upS_ne, u2_ne]
    exact h.fl hk
  · simp (disch := omega) only [upS_ne, u2_ne]
    exact h.r q hq
  · by_cases cc : u = t
    · subst cc
      simp (disch := omega) only [upS_ne, upS_eq, u2_ne, u2_eq]
      first | done | (simp; done) | exact ⟨h.at hu, h.st hu⟩ | exact ⟨h.at hu, h.wd hu⟩ | exact ⟨h.st hu, h.wd hu⟩ | exact ⟨rfl, h.st hu, h.wd hu⟩ | exact ⟨h.at hu, rfl, h.wd hu⟩ | exact ⟨h.at hu, h.st hu, rfl⟩ | (simp only [true_and, and_true]; first | exact ⟨h.at hu, h.st hu⟩ | exact ⟨h.at hu, h.wd hu⟩ | exact ⟨h.st hu, h.wd hu⟩)
    · simp (disch := omega) only [upS_ne, u2_ne]
      exact h.t u hu
theorem RS.u6 (h : RS P V S) (w : okP P) {t : Nat} (ht : t < ct P 6) (x : Int32) : RS P (u2 V 6 t x) (upS S (283 + t) x) := by
  have h0 := w.c0.2
  have h4 := w.c4.2
  have h6 := w.c6.2
  refine ⟨?_, ?_, ?_, ?_, fun k hk => ?_, fun q hq => ?_, fun u hu => ?_⟩
  · first | (simp (disch := omega) only [upS_ne, upS_eq, u2_ne, u2_eq]; done) | (try simp (disch := omega) only [upS_ne, u2_ne]; exact h.tick)
  · first | (simp (disch := omega) only [upS_ne, upS_eq, u2_ne, u2_eq]; done) | (try simp (disch := omega) only [upS_ne, u2_ne]; exact h.met)
  · first | (simp (disch := omega) only [upS_ne, upS_eq, u2_ne, u2_eq]; done) | (try simp (disch := omega) only [upS_ne, u2_ne]; exact h.rev)
  · first | (simp (disch := omega) only [upS_ne, upS_eq, u2_ne, u2_eq]; done) | (try simp (disch := omega) only [upS_ne, u2_ne]; exact h.cr)
  · simp (disch := omega) only [s_failing, upS_ne, u2_ne]
    exact h.fl hk
  · simp (disch := omega) only [upS_ne, u2_ne]
    exact h.r q hq
  · by_cases c : u = t
    · subst c
      simp (disch := omega) only [upS_ne, upS_eq, u2_ne, u2_eq]
      first | done | (simp; done) | exact ⟨h.at hu, h.st hu⟩ | exact ⟨h.at hu, h.wd hu⟩ | exact ⟨h.st hu, h.wd hu⟩ | exact ⟨rfl, h.st hu, h.wd hu⟩ | exact ⟨h.at hu, rfl, h.wd hu⟩ | exact ⟨h.at hu, h.st hu, rfl⟩ | (simp only [true_and, and_true]; first | exact ⟨h.at hu, h.st hu⟩ | exact ⟨h.at hu, h.wd hu⟩ | exact ⟨h.st hu, h.wd hu⟩)
    · simp (disch := omega) only [upS_ne, u2_ne]
      exact h.t u hu
theorem RS.used (h : RS P V S) (w : okP P) {r : Nat} (hr : r < ct P 4) (u0 : Int32) (h3 : ¬ V 1 r = 3) : RS P (u2 (u2 V 1 r 2) 3 r u0) (upS (upS S (229 + r) 2) (249 + r) (u0 + 1)) := by
  have h0 := w.c0.2
  have h4 := w.c4.2
  have h6 := w.c6.2
  refine ⟨?_, ?_, ?_, ?_, fun k hk => ?_, fun q hq => ?_, fun u hu => ?_⟩
  · first | (simp (disch := omega) only [upS_ne, upS_eq, u2_ne, u2_eq]; done) | (try simp (disch := omega) only [upS_ne, u2_ne]; exact h.tick)
  · first | (simp (disch := omega) only [upS_ne, upS_eq, u2_ne, u2_eq]; done) | (try simp (disch := omega) only [upS_ne, u2_ne]; exact h.met)
  · first | (simp (disch := omega) only [upS_ne, upS_eq, u2_ne, u2_eq]; done) | (try simp (disch := omega) only [upS_ne, u2_ne]; exact h.rev)
  · first | (simp (disch := omega) only [upS_ne, upS_eq, u2_ne, u2_eq]; done) | (try simp (disch := omega) only [upS_ne, u2_ne]; exact h.cr)
  · simp (disch := omega) only [s_failing, upS_ne, u2_ne]
    exact h.fl hk
  · by_cases c : q = r
    · subst c
      refine ⟨?_, ?_, ?_⟩
      · first | (simp (disch := omega) only [upS_ne, upS_eq, u2_ne, u2_eq]; done) | ((try simp (disch := omega) only [upS_ne, upS_eq, u2_ne, u2_eq]); rfl)
      · first | (simp (disch := omega) only [upS_ne, upS_eq, u2_ne, u2_eq]; done) | ((try simp (disch := omega) only [upS_ne, upS_eq, u2_ne, u2_eq]); rw [h.tm hq, if_neg h3]; first | done | rfl | simp)
      · first | (simp (disch := omega) only [upS_ne, upS_eq, u2_ne, u2_eq]; done) | ((try simp (disch := omega) only [upS_ne, upS_eq, u2_ne, u2_eq]); simp)
    · simp (disch := omega) only [upS_ne, u2_ne]
      exact h.r q hq
  · simp (disch := omega) only [upS_ne, u2_ne]
    exact h.t u hu
theorem RS.unused (h : RS P V S) (w : okP P) {r : Nat} (hr : r < ct P 4) (h2 : V 1 r = 2) : RS P (u2 V 1 r 0) (upS (upS S (229 + r) 0) (249 + r) 0) := by
  have h0 := w.c0.2
  have h4 := w.c4.2
  have h6 := w.c6.2
  refine ⟨?_, ?_, ?_, ?_, fun k hk => ?_, fun q hq => ?_, fun u hu => ?_⟩
  · first | (simp (disch := omega) only [upS_ne, upS_eq, u2_ne, u2_eq]; done) | (try simp (disch := omega) only [upS_ne, u2_ne]; exact h.tick)
  · first | (simp (disch := omega) only [upS_ne, upS_eq, u2_ne, u2_eq]; done) | (try simp (disch := omega) only [upS_ne, u2_ne]; exact h.met)
  · first | (simp (disch := omega) only [upS_ne, upS_eq, u2_ne, u2_eq]; done) | (try simp (disch := omega) only [upS_ne, u2_ne]; exact h.rev)
  · first | (simp (disch := omega) only [upS_ne, upS_eq, u2_ne, u2_eq]; done) | (try simp (disch := omega) only [upS_ne, u2_ne]; exact h.cr)
  · simp (disch := omega) only [s_failing, upS_ne, u2_ne]
    exact h.fl hk
  · by_cases c : q = r
    · subst c
      refine ⟨?_, ?_, ?_⟩
      · first | (simp (disch := omega) only [upS_ne, upS_eq, u2_ne, u2_eq]; done) | ((try simp (disch := omega) only [upS_ne, upS_eq, u2_ne, u2_eq]); rfl)
      · first | (simp (disch := omega) only [upS_ne, upS_eq, u2_ne, u2_eq]; done) | ((try simp (disch := omega) only [upS_ne, upS_eq, u2_ne, u2_eq]); rw [h.tm hq, if_neg (by rw [h2]; decide)]; first | done | rfl | simp)
      · first | (simp (disch := omega) only [upS_ne, upS_eq, u2_ne, u2_eq]; done) | ((try simp (disch := omega) only [upS_ne, upS_eq, u2_ne, u2_eq]); simp)
    · simp (disch := omega) only [upS_ne, u2_ne]
      exact h.r q hq
  · simp (disch := omega) only [upS_ne, u2_ne]
    exact h.t u hu
theorem RS.crash (h : RS P V S) (w : okP P) (x y : Int32) : RS P (u2 (u2 V 0 2 x) 0 6 y) (upS (upS S 281 y) 227 x) := by
  have h0 := w.c0.2
  have h4 := w.c4.2
  have h6 := w.c6.2
  refine ⟨?_, ?_, ?_, ?_, fun k hk => ?_, fun q hq => ?_, fun u hu => ?_⟩
  · first | (simp (disch := omega) only [upS_ne, upS_eq, u2_ne, u2_eq]; done) | (try simp (disch := omega) only [upS_ne, u2_ne]; exact h.tick)
  · first | (simp (disch := omega) only [upS_ne, upS_eq, u2_ne, u2_eq]; done) | (try simp (disch := omega) only [upS_ne, u2_ne]; exact h.met)
  · first | (simp (disch := omega) only [upS_ne, upS_eq, u2_ne, u2_eq]; done) | (try simp (disch := omega) only [upS_ne, u2_ne]; exact h.rev)
  · first | (simp (disch := omega) only [upS_ne, upS_eq, u2_ne, u2_eq]; done) | (try simp (disch := omega) only [upS_ne, u2_ne]; exact h.cr)
  · simp (disch := omega) only [s_failing, upS_ne, u2_ne]
    exact h.fl hk
  · simp (disch := omega) only [upS_ne, u2_ne]
    exact h.r q hq
  · simp (disch := omega) only [upS_ne, u2_ne]
    exact h.t u hu
theorem RS.tk (h : RS P V S) (w : okP P) (x : Int32) : RS P (u2 V 0 1 x) (upS S 226 x) := by
  have h0 := w.c0.2
  have h4 := w.c4.2
  have h6 := w.c6.2
  refine ⟨?_, ?_, ?_, ?_, fun k hk => ?_, fun q hq => ?_, fun u hu => ?_⟩
  · first | (simp (disch := omega) only [upS_ne, upS_eq, u2_ne, u2_eq]; done) | (try simp (disch := omega) only [upS_ne, u2_ne]; exact h.tick)
  · first | (simp (disch := omega) only [upS_ne, upS_eq, u2_ne, u2_eq]; done) | (try simp (disch := omega) only [upS_ne, u2_ne]; exact h.met)
  · first | (simp (disch := omega) only [upS_ne, upS_eq, u2_ne, u2_eq]; done) | (try simp (disch := omega) only [upS_ne, u2_ne]; exact h.rev)
  · first | (simp (disch := omega) only [upS_ne, upS_eq, u2_ne, u2_eq]; done) | (try simp (disch := omega) only [upS_ne, u2_ne]; exact h.cr)
  · simp (disch := omega) only [s_failing, upS_ne, u2_ne]
    exact h.fl hk
  · simp (disch := omega) only [upS_ne, u2_ne]
    exact h.r q hq
  · simp (disch := omega) only [upS_ne, u2_ne]
    exact h.t u hu
theorem RS.rv (h : RS P V S) (w : okP P) (x : Int32) : RS P (u2 V 0 3 x) (upS S 228 x) := by
  have h0 := w.c0.2
  have h4 := w.c4.2
  have h6 := w.c6.2
  refine ⟨?_, ?_, ?_, ?_, fun k hk => ?_, fun q hq => ?_, fun u hu => ?_⟩
  · first | (simp (disch := omega) only [upS_ne, upS_eq, u2_ne, u2_eq]; done) | (try simp (disch := omega) only [upS_ne, u2_ne]; exact h.tick)
  · first | (simp (disch := omega) only [upS_ne, upS_eq, u2_ne, u2_eq]; done) | (try simp (disch := omega) only [upS_ne, u2_ne]; exact h.met)
  · first | (simp (disch := omega) only [upS_ne, upS_eq, u2_ne, u2_eq]; done) | (try simp (disch := omega) only [upS_ne, u2_ne]; exact h.rev)
  · first | (simp (disch := omega) only [upS_ne, upS_eq, u2_ne, u2_eq]; done) | (try simp (disch := omega) only [upS_ne, u2_ne]; exact h.cr)
  · simp (disch := omega) only [s_failing, upS_ne, u2_ne]
    exact h.fl hk
  · simp (disch := omega) only [upS_ne, u2_ne]
    exact h.r q hq
  · simp (disch := omega) only [upS_ne, u2_ne]
    exact h.t u hu
theorem RS.set (h : RS P V S) (w : okP P) {r : Nat} (hr : r < ct P 4) (h0r : V 1 r = 0) : RS P (u2 V 1 r 1) (upS S (229 + r) 1) := by
  have h0 := w.c0.2
  have h4 := w.c4.2
  have h6 := w.c6.2
  refine ⟨?_, ?_, ?_, ?_, fun k hk => ?_, fun q hq => ?_, fun u hu => ?_⟩
  · first | (simp (disch := omega) only [upS_ne, upS_eq, u2_ne, u2_eq]; done) | (try simp (disch := omega) only [upS_ne, u2_ne]; exact h.tick)
  · first | (simp (disch := omega) only [upS_ne, upS_eq, u2_ne, u2_eq]; done) | (try simp (disch := omega) only [upS_ne, u2_ne]; exact h.met)
  · first | (simp (disch := omega) only [upS_ne, upS_eq, u2_ne, u2_eq]; done) | (try simp (disch := omega) only [upS_ne, u2_ne]; exact h.rev)
  · first | (simp (disch := omega) only [upS_ne, upS_eq, u2_ne, u2_eq]; done) | (try simp (disch := omega) only [upS_ne, u2_ne]; exact h.cr)
  · simp (disch := omega) only [s_failing, upS_ne, u2_ne]
    exact h.fl hk
  · by_cases c : q = r
    · subst c
      refine ⟨?_, ?_, ?_⟩
      · first | (simp (disch := omega) only [upS_ne, upS_eq, u2_ne, u2_eq]; done) | ((try simp (disch := omega) only [upS_ne, upS_eq, u2_ne, u2_eq]); rfl)
      · first | (simp (disch := omega) only [upS_ne, upS_eq, u2_ne, u2_eq]; done) | ((try simp (disch := omega) only [upS_ne, upS_eq, u2_ne, u2_eq]); rw [h.tm hq, if_neg (by rw [h0r]; decide)]; first | done | rfl | simp)
      · first | (simp (disch := omega) only [upS_ne, upS_eq, u2_ne, u2_eq]; done) | ((try simp (disch := omega) only [upS_ne, upS_eq, u2_ne, u2_eq]); rw [h.us hq, if_neg (by rw [h0r]; decide)]; first | done | rfl | simp)
    · simp (disch := omega) only [upS_ne, u2_ne]
      exact h.r q hq
  · simp (disch := omega) only [upS_ne, u2_ne]
    exact h.t u hu
theorem RS.held (h : RS P V S) (w : okP P) {r : Nat} (hr : r < ct P 4) (n : Int32) (h1 : V 1 r = 1) : RS P (u2 (u2 V 1 r 3) 2 r n) (upS (upS S (229 + r) 3) (239 + r) n) := by
  have h0 := w.c0.2
  have h4 := w.c4.2
  have h6 := w.c6.2
  refine ⟨?_, ?_, ?_, ?_, fun k hk => ?_, fun q hq => ?_, fun u hu => ?_⟩
  · first | (simp (disch := omega) only [upS_ne, upS_eq, u2_ne, u2_eq]; done) | (try simp (disch := omega) only [upS_ne, u2_ne]; exact h.tick)
  · first | (simp (disch := omega) only [upS_ne, upS_eq, u2_ne, u2_eq]; done) | (try simp (disch := omega) only [upS_ne, u2_ne]; exact h.met)
  · first | (simp (disch := omega) only [upS_ne, upS_eq, u2_ne, u2_eq]; done) | (try simp (disch := omega) only [upS_ne, u2_ne]; exact h.rev)
  · first | (simp (disch := omega) only [upS_ne, upS_eq, u2_ne, u2_eq]; done) | (try simp (disch := omega) only [upS_ne, u2_ne]; exact h.cr)
  · simp (disch := omega) only [s_failing, upS_ne, u2_ne]
    exact h.fl hk
  · by_cases c : q = r
    · subst c
      refine ⟨?_, ?_, ?_⟩
      · first | (simp (disch := omega) only [upS_ne, upS_eq, u2_ne, u2_eq]; done) | ((try simp (disch := omega) only [upS_ne, upS_eq, u2_ne, u2_eq]); rfl)
      · first | (simp (disch := omega) only [upS_ne, upS_eq, u2_ne, u2_eq]; done) | ((try simp (disch := omega) only [upS_ne, upS_eq, u2_ne, u2_eq]); simp)
      · first | (simp (disch := omega) only [upS_ne, upS_eq, u2_ne, u2_eq]; done) | ((try simp (disch := omega) only [upS_ne, upS_eq, u2_ne, u2_eq]); rw [h.us hq, if_neg (by rw [h1]; decide)]; first | done | rfl | simp)
    · simp (disch := omega) only [upS_ne, u2_ne]
      exact h.r q hq
  · simp (disch := omega) only [upS_ne, u2_ne]
    exact h.t u hu
theorem RS.free (h : RS P V S) (w : okP P) {r : Nat} (hr : r < ct P 4) (h1 : V 1 r = 1) : RS P (u2 V 1 r 0) (upS (upS S (229 + r) 0) (239 + r) 0) := by
  have h0 := w.c0.2
  have h4 := w.c4.2
  have h6 := w.c6.2
  refine ⟨?_, ?_, ?_, ?_, fun k hk => ?_, fun q hq => ?_, fun u hu => ?_⟩
  · first | (simp (disch := omega) only [upS_ne, upS_eq, u2_ne, u2_eq]; done) | (try simp (disch := omega) only [upS_ne, u2_ne]; exact h.tick)
  · first | (simp (disch := omega) only [upS_ne, upS_eq, u2_ne, u2_eq]; done) | (try simp (disch := omega) only [upS_ne, u2_ne]; exact h.met)
  · first | (simp (disch := omega) only [upS_ne, upS_eq, u2_ne, u2_eq]; done) | (try simp (disch := omega) only [upS_ne, u2_ne]; exact h.rev)
  · first | (simp (disch := omega) only [upS_ne, upS_eq, u2_ne, u2_eq]; done) | (try simp (disch := omega) only [upS_ne, u2_ne]; exact h.cr)
  · simp (disch := omega) only [s_failing, upS_ne, u2_ne]
    exact h.fl hk
  · by_cases c : q = r
    · subst c
      refine ⟨?_, ?_, ?_⟩
      · first | (simp (disch := omega) only [upS_ne, upS_eq, u2_ne, u2_eq]; done) | ((try simp (disch := omega) only [upS_ne, upS_eq, u2_ne, u2_eq]); rfl)
      · first | (simp (disch := omega) only [upS_ne, upS_eq, u2_ne, u2_eq]; done) | ((try simp (disch := omega) only [upS_ne, upS_eq, u2_ne, u2_eq]); simp)
      · first | (simp (disch := omega) only [upS_ne, upS_eq, u2_ne, u2_eq]; done) | ((try simp (disch := omega) only [upS_ne, upS_eq, u2_ne, u2_eq]); rw [h.us hq, if_neg (by rw [h1]; decide)]; first | done | rfl | simp)
    · simp (disch := omega) only [upS_ne, u2_ne]
      exact h.r q hq
  · simp (disch := omega) only [upS_ne, u2_ne]
    exact h.t u hu
theorem RS.hold (h : RS P V S) (w : okP P) {r : Nat} (hr : r < ct P 4) (n : Int32) (h1 : V 1 r = 3) : RS P (u2 V 2 r n) (upS S (239 + r) n) := by
  have h0 := w.c0.2
  have h4 := w.c4.2
  have h6 := w.c6.2
  refine ⟨?_, ?_, ?_, ?_, fun k hk => ?_, fun q hq => ?_, fun u hu => ?_⟩
  · first | (simp (disch := omega) only [upS_ne, upS_eq, u2_ne, u2_eq]; done) | (try simp (disch := omega) only [upS_ne, u2_ne]; exact h.tick)
  · first | (simp (disch := omega) only [upS_ne, upS_eq, u2_ne, u2_eq]; done) | (try simp (disch := omega) only [upS_ne, u2_ne]; exact h.met)
  · first | (simp (disch := omega) only [upS_ne, upS_eq, u2_ne, u2_eq]; done) | (try simp (disch := omega) only [upS_ne, u2_ne]; exact h.rev)
  · first | (simp (disch := omega) only [upS_ne, upS_eq, u2_ne, u2_eq]; done) | (try simp (disch := omega) only [upS_ne, u2_ne]; exact h.cr)
  · simp (disch := omega) only [s_failing, upS_ne, u2_ne]
    exact h.fl hk
  · by_cases c : q = r
    · subst c
      refine ⟨?_, ?_, ?_⟩
      · first | (simp (disch := omega) only [upS_ne, upS_eq, u2_ne, u2_eq]; done) | ((try simp (disch := omega) only [upS_ne, upS_eq, u2_ne, u2_eq]); exact h.how hq)
      · first | (simp (disch := omega) only [upS_ne, upS_eq, u2_ne, u2_eq]; done) | ((try simp (disch := omega) only [upS_ne, upS_eq, u2_ne, u2_eq]); rw [if_pos h1])
      · first | (simp (disch := omega) only [upS_ne, upS_eq, u2_ne, u2_eq]; done) | ((try simp (disch := omega) only [upS_ne, upS_eq, u2_ne, u2_eq]); rw [h.us hq])
    · simp (disch := omega) only [upS_ne, u2_ne]
      exact h.r q hq
  · simp (disch := omega) only [upS_ne, u2_ne]
    exact h.t u hu
theorem RS.loose (h : RS P V S) (w : okP P) {r : Nat} (hr : r < ct P 4) (n : Int32) (h1 : V 1 r = 3) : RS P (u2 (u2 V 2 r n) 1 r 0) (upS (upS S (239 + r) 0) (229 + r) 0) := by
  have h0 := w.c0.2
  have h4 := w.c4.2
  have h6 := w.c6.2
  refine ⟨?_, ?_, ?_, ?_, fun k hk => ?_, fun q hq => ?_, fun u hu => ?_⟩
  · first | (simp (disch := omega) only [upS_ne, upS_eq, u2_ne, u2_eq]; done) | (try simp (disch := omega) only [upS_ne, u2_ne]; exact h.tick)
  · first | (simp (disch := omega) only [upS_ne, upS_eq, u2_ne, u2_eq]; done) | (try simp (disch := omega) only [upS_ne, u2_ne]; exact h.met)
  · first | (simp (disch := omega) only [upS_ne, upS_eq, u2_ne, u2_eq]; done) | (try simp (disch := omega) only [upS_ne, u2_ne]; exact h.rev)
  · first | (simp (disch := omega) only [upS_ne, upS_eq, u2_ne, u2_eq]; done) | (try simp (disch := omega) only [upS_ne, u2_ne]; exact h.cr)
  · simp (disch := omega) only [s_failing, upS_ne, u2_ne]
    exact h.fl hk
  · by_cases c : q = r
    · subst c
      refine ⟨?_, ?_, ?_⟩
      · first | (simp (disch := omega) only [upS_ne, upS_eq, u2_ne, u2_eq]; done) | ((try simp (disch := omega) only [upS_ne, upS_eq, u2_ne, u2_eq]); rfl)
      · first | (simp (disch := omega) only [upS_ne, upS_eq, u2_ne, u2_eq]; done) | ((try simp (disch := omega) only [upS_ne, upS_eq, u2_ne, u2_eq]); simp)
      · first | (simp (disch := omega) only [upS_ne, upS_eq, u2_ne, u2_eq]; done) | ((try simp (disch := omega) only [upS_ne, upS_eq, u2_ne, u2_eq]); rw [h.us hq, if_neg (by rw [h1]; decide)]; first | done | rfl | simp)
    · simp (disch := omega) only [upS_ne, u2_ne]
      exact h.r q hq
  · simp (disch := omega) only [upS_ne, u2_ne]
    exact h.t u hu
theorem RS.w7 (h : RS P V S) (x : Int32) : RS P (u2 V 0 7 x) S := h
theorem RS.s7 (h : RS P V S) (w : okP P) (x : Int32) : RS P V (upS S 282 x) := by
  have h0 := w.c0.2
  have h4 := w.c4.2
  have h6 := w.c6.2
  refine ⟨?_, ?_, ?_, ?_, fun k hk => ?_, fun q hq => ?_, fun u hu => ?_⟩
  · rw [upS_ne (by omega)]; exact h.tick
  · rw [upS_ne (by omega)]; exact h.met
  · rw [upS_ne (by omega)]; exact h.rev
  · rw [upS_ne (by omega)]; exact h.cr
  · rw [upS_ne (by omega)]; exact h.fl hk
  · rw [upS_ne (by omega), upS_ne (by omega), upS_ne (by omega)]; exact h.r q hq
  · rw [upS_ne (by omega), upS_ne (by omega), upS_ne (by omega)]; exact h.t u hu
end UP
