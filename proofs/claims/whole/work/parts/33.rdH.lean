theorem rs_all {h : m_H} {T1 T2 : m_V} {X1 X2 : m_L} {R R' : m_V} {RL : m_L} {D D' : m_V} {N N' : m_L} : m_bk (m_bk (m_bk (m_bk (m_bk (m_bk h 1 3 T1 X1) 25 1 R RL) 26 21 D N) 1 3 T2 X2) 25 1 R' RL) 26 21 D' N' = m_bk (m_bk (m_bk h 1 3 T2 X2) 25 1 R' RL) 26 21 D' N' := by
  rw [bk_cm (h := m_bk (m_bk h 1 3 T1 X1) 25 1 R RL) (b := 26) (p := 1) (by decide), bk_cm (h := m_bk h 1 3 T1 X1) (b := 25) (p := 1) (by decide), bk_bk (h := h) (b := 1), bk_cm (h := m_bk (m_bk h 1 3 _ _) 25 1 R RL) (b := 26) (p := 25) (by decide), bk_bk (b := 25), bk_bk (b := 26)]
theorem pts_eq {S : m_TX} {D : m_V} {N : m_L} {R : m_V} {a b : Int32} : (r_pointsBy S D N R a b).2.2.1 = D ∧ (r_pointsBy S D N R a b).2.2.2.1 = N ∧ (r_pointsBy S D N R a b).2.2.2.2 = R := by
  unfold r_pointsBy
  repeat (first | exact ⟨rfl, rfl, rfl⟩ | split)
theorem ok_pts {S : m_TX} {D : m_V} {N : m_L} {R : m_V} {a b : Int32} (h : okT S.1) : okT (r_pointsBy S D N R a b).2.1.1 := by
  unfold r_pointsBy
  repeat (first | exact ok_name h | exact ok_wrong (ok_name h) _ | split)
theorem pts_heap {h : m_H} {S : m_TX} {D : m_V} {N : m_L} {R : m_V} {RL : m_L} {a b : Int32} : m_bk (m_bk (m_bk (m_bk (m_bk (m_bk h 1 3 S.1 S.2) 25 1 R RL) 26 21 D N) 1 3 (r_pointsBy S D N R a b).2.1.1 (r_pointsBy S D N R a b).2.1.2) 25 1 (r_pointsBy S D N R a b).2.2.2.2 RL) 26 21 (r_pointsBy S D N R a b).2.2.1 (r_pointsBy S D N R a b).2.2.2.1 = m_bk (m_bk (m_bk h 1 3 (r_pointsBy S D N R a b).2.1.1 (r_pointsBy S D N R a b).2.1.2) 25 1 R RL) 26 21 D N := by
  obtain ⟨e1, e2, e3⟩ := pts_eq (S := S) (D := D) (N := N) (R := R) (a := a) (b := b)
  rw [e1, e2, e3]
  exact rs_all
